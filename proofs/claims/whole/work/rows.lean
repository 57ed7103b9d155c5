section
-- ===== PART A: goes FIRST, ahead of the names: the tables' words, and 'selects' of the private methods out of them =====
/-- a private method of a class that the tables say can be made, by its rows of tables_1 -/
def lw_okq (q : MethodName × Nat) : Prop := (q.1.cls ≠ "java/lang/invoke/MethodHandle" ∧ q.1.cls ≠ "java/lang/invoke/VarHandle") ∧ Cond.instantiable q.1.cls q.2 ∈ tables_1 ∧ Cond.privateMethod q.1 ∈ tables_1 ∧ Cond.instanceMethod q.1 ∈ tables_1
theorem lw_p0 : lw_okq (⟨"ToldShields", "refuseNoShield", "(I)V"⟩, 6) := ⟨⟨by decide +kernel, by decide +kernel⟩, List.mem_of_getElem? (i := 25) (by decide +kernel), List.mem_of_getElem? (i := 132) (by decide +kernel), List.mem_of_getElem? (i := 133) (by decide +kernel)⟩
theorem lw_p1 : lw_okq (⟨"java/lang/Throwable", "fillInStackTrace", "(I)Ljava/lang/Throwable;"⟩, 6) := ⟨⟨by decide +kernel, by decide +kernel⟩, List.mem_of_getElem? (i := 174) (by decide +kernel), List.mem_of_getElem? (i := 172) (by decide +kernel), List.mem_of_getElem? (i := 173) (by decide +kernel)⟩
theorem lw_p2 : lw_okq (⟨"ToldShields$Told", "addWord", "(LToldShields$Word;)V"⟩, 10) := ⟨⟨by decide +kernel, by decide +kernel⟩, List.mem_of_getElem? (i := 34) (by decide +kernel), List.mem_of_getElem? (i := 270) (by decide +kernel), List.mem_of_getElem? (i := 271) (by decide +kernel)⟩
theorem lw_p3 : lw_okq (⟨"ToldShields$Reader", "readShield", "(I)LToldShields$Shield;"⟩, 2) := ⟨⟨by decide +kernel, by decide +kernel⟩, List.mem_of_getElem? (i := 274) (by decide +kernel), List.mem_of_getElem? (i := 296) (by decide +kernel), List.mem_of_getElem? (i := 297) (by decide +kernel)⟩
theorem lw_p4 : lw_okq (⟨"ToldShields$Reader", "readField", "(I)LToldShields$Shield;"⟩, 2) := ⟨⟨by decide +kernel, by decide +kernel⟩, List.mem_of_getElem? (i := 274) (by decide +kernel), List.mem_of_getElem? (i := 303) (by decide +kernel), List.mem_of_getElem? (i := 304) (by decide +kernel)⟩
theorem lw_p5 : lw_okq (⟨"ToldShields$Reader", "readDivision", "()LToldShields$Word;"⟩, 2) := ⟨⟨by decide +kernel, by decide +kernel⟩, List.mem_of_getElem? (i := 274) (by decide +kernel), List.mem_of_getElem? (i := 345) (by decide +kernel), List.mem_of_getElem? (i := 346) (by decide +kernel)⟩
theorem lw_p6 : lw_okq (⟨"ToldShields$Reader", "take", "(LToldShields$Word;)Z"⟩, 2) := ⟨⟨by decide +kernel, by decide +kernel⟩, List.mem_of_getElem? (i := 274) (by decide +kernel), List.mem_of_getElem? (i := 351) (by decide +kernel), List.mem_of_getElem? (i := 352) (by decide +kernel)⟩
theorem lw_p7 : lw_okq (⟨"ToldShields$Reader", "readPart", "(I)LToldShields$Part;"⟩, 2) := ⟨⟨by decide +kernel, by decide +kernel⟩, List.mem_of_getElem? (i := 274) (by decide +kernel), List.mem_of_getElem? (i := 367) (by decide +kernel), List.mem_of_getElem? (i := 368) (by decide +kernel)⟩
theorem lw_p8 : lw_okq (⟨"ToldShields$Reader", "readItem", "(LToldShields$Shield;)Z"⟩, 2) := ⟨⟨by decide +kernel, by decide +kernel⟩, List.mem_of_getElem? (i := 274) (by decide +kernel), List.mem_of_getElem? (i := 377) (by decide +kernel), List.mem_of_getElem? (i := 378) (by decide +kernel)⟩
theorem lw_p9 : lw_okq (⟨"ToldShields$Reader", "readCharges", "(LToldShields$Shield;LToldShields$Ordinary;)Z"⟩, 2) := ⟨⟨by decide +kernel, by decide +kernel⟩, List.mem_of_getElem? (i := 274) (by decide +kernel), List.mem_of_getElem? (i := 383) (by decide +kernel), List.mem_of_getElem? (i := 384) (by decide +kernel)⟩
theorem lw_p10 : lw_okq (⟨"ToldShields$Reader", "readCoat", "(Z)I"⟩, 2) := ⟨⟨by decide +kernel, by decide +kernel⟩, List.mem_of_getElem? (i := 274) (by decide +kernel), List.mem_of_getElem? (i := 407) (by decide +kernel), List.mem_of_getElem? (i := 408) (by decide +kernel)⟩
theorem lw_p11 : lw_okq (⟨"ToldShields$Reader", "readOrdinary", "(LToldShields$Shield;)LToldShields$Ordinary;"⟩, 2) := ⟨⟨by decide +kernel, by decide +kernel⟩, List.mem_of_getElem? (i := 274) (by decide +kernel), List.mem_of_getElem? (i := 454) (by decide +kernel), List.mem_of_getElem? (i := 455) (by decide +kernel)⟩
theorem lw_p12 : lw_okq (⟨"ToldShields$Shield", "fieldAt", "(IIII)I"⟩, 5) := ⟨⟨by decide +kernel, by decide +kernel⟩, List.mem_of_getElem? (i := 321) (by decide +kernel), List.mem_of_getElem? (i := 488) (by decide +kernel), List.mem_of_getElem? (i := 489) (by decide +kernel)⟩
theorem lw_p13 : lw_okq (⟨"ToldShields$Charges", "rowsCover", "(IIIII)Z"⟩, 4) := ⟨⟨by decide +kernel, by decide +kernel⟩, List.mem_of_getElem? (i := 425) (by decide +kernel), List.mem_of_getElem? (i := 514) (by decide +kernel), List.mem_of_getElem? (i := 515) (by decide +kernel)⟩
theorem lw_p14 : lw_okq (⟨"ToldShields$Charges", "chargesInRow", "(I)I"⟩, 4) := ⟨⟨by decide +kernel, by decide +kernel⟩, List.mem_of_getElem? (i := 425) (by decide +kernel), List.mem_of_getElem? (i := 518) (by decide +kernel), List.mem_of_getElem? (i := 519) (by decide +kernel)⟩
theorem lw_p15 : lw_okq (⟨"ToldShields$Charges", "rowCovers", "(IIIII)Z"⟩, 4) := ⟨⟨by decide +kernel, by decide +kernel⟩, List.mem_of_getElem? (i := 425) (by decide +kernel), List.mem_of_getElem? (i := 526) (by decide +kernel), List.mem_of_getElem? (i := 527) (by decide +kernel)⟩
def lw_privs_1 : List (MethodName × Nat) := [(⟨"ToldShields", "refuseNoShield", "(I)V"⟩, 6), (⟨"java/lang/Throwable", "fillInStackTrace", "(I)Ljava/lang/Throwable;"⟩, 6), (⟨"ToldShields$Told", "addWord", "(LToldShields$Word;)V"⟩, 10), (⟨"ToldShields$Reader", "readShield", "(I)LToldShields$Shield;"⟩, 2), (⟨"ToldShields$Reader", "readField", "(I)LToldShields$Shield;"⟩, 2), (⟨"ToldShields$Reader", "readDivision", "()LToldShields$Word;"⟩, 2), (⟨"ToldShields$Reader", "take", "(LToldShields$Word;)Z"⟩, 2), (⟨"ToldShields$Reader", "readPart", "(I)LToldShields$Part;"⟩, 2), (⟨"ToldShields$Reader", "readItem", "(LToldShields$Shield;)Z"⟩, 2), (⟨"ToldShields$Reader", "readCharges", "(LToldShields$Shield;LToldShields$Ordinary;)Z"⟩, 2), (⟨"ToldShields$Reader", "readCoat", "(Z)I"⟩, 2), (⟨"ToldShields$Reader", "readOrdinary", "(LToldShields$Shield;)LToldShields$Ordinary;"⟩, 2), (⟨"ToldShields$Shield", "fieldAt", "(IIII)I"⟩, 5), (⟨"ToldShields$Charges", "rowsCover", "(IIIII)Z"⟩, 4), (⟨"ToldShields$Charges", "chargesInRow", "(I)I"⟩, 4), (⟨"ToldShields$Charges", "rowCovers", "(IIIII)Z"⟩, 4)]
theorem lw_r1 : ∀ q ∈ lw_privs_1, lw_okq q := List.forall_mem_cons.mpr ⟨lw_p0, List.forall_mem_cons.mpr ⟨lw_p1, List.forall_mem_cons.mpr ⟨lw_p2, List.forall_mem_cons.mpr ⟨lw_p3, List.forall_mem_cons.mpr ⟨lw_p4, List.forall_mem_cons.mpr ⟨lw_p5, List.forall_mem_cons.mpr ⟨lw_p6, List.forall_mem_cons.mpr ⟨lw_p7, List.forall_mem_cons.mpr ⟨lw_p8, List.forall_mem_cons.mpr ⟨lw_p9, List.forall_mem_cons.mpr ⟨lw_p10, List.forall_mem_cons.mpr ⟨lw_p11, List.forall_mem_cons.mpr ⟨lw_p12, List.forall_mem_cons.mpr ⟨lw_p13, List.forall_mem_cons.mpr ⟨lw_p14, List.forall_mem_cons.mpr ⟨lw_p15, fun _ h => absurd h List.not_mem_nil⟩⟩⟩⟩⟩⟩⟩⟩⟩⟩⟩⟩⟩⟩⟩⟩
theorem lw_p16 : lw_okq (⟨"ToldShields$Charges", "chargeCovers", "(IIII)Z"⟩, 4) := ⟨⟨by decide +kernel, by decide +kernel⟩, List.mem_of_getElem? (i := 425) (by decide +kernel), List.mem_of_getElem? (i := 530) (by decide +kernel), List.mem_of_getElem? (i := 531) (by decide +kernel)⟩
theorem lw_p17 : lw_okq (⟨"ToldShields$Shield", "otherThan", "(I)I"⟩, 5) := ⟨⟨by decide +kernel, by decide +kernel⟩, List.mem_of_getElem? (i := 321) (by decide +kernel), List.mem_of_getElem? (i := 564) (by decide +kernel), List.mem_of_getElem? (i := 565) (by decide +kernel)⟩
theorem lw_p18 : lw_okq (⟨"ToldShields", "refuseNoPlace", "(I)V"⟩, 6) := ⟨⟨by decide +kernel, by decide +kernel⟩, List.mem_of_getElem? (i := 25) (by decide +kernel), List.mem_of_getElem? (i := 576) (by decide +kernel), List.mem_of_getElem? (i := 577) (by decide +kernel)⟩
theorem lw_p19 : lw_okq (⟨"ToldShields", "toldOf", "(I)LToldShields$Told;"⟩, 6) := ⟨⟨by decide +kernel, by decide +kernel⟩, List.mem_of_getElem? (i := 25) (by decide +kernel), List.mem_of_getElem? (i := 581) (by decide +kernel), List.mem_of_getElem? (i := 582) (by decide +kernel)⟩
theorem lw_p20 : lw_okq (⟨"ToldShields", "writePage", "(LToldShields$Told;Z)V"⟩, 6) := ⟨⟨by decide +kernel, by decide +kernel⟩, List.mem_of_getElem? (i := 25) (by decide +kernel), List.mem_of_getElem? (i := 678) (by decide +kernel), List.mem_of_getElem? (i := 679) (by decide +kernel)⟩
theorem lw_p21 : lw_okq (⟨"ToldShields", "writeChar", "(C)V"⟩, 6) := ⟨⟨by decide +kernel, by decide +kernel⟩, List.mem_of_getElem? (i := 25) (by decide +kernel), List.mem_of_getElem? (i := 682) (by decide +kernel), List.mem_of_getElem? (i := 683) (by decide +kernel)⟩
theorem lw_p22 : lw_okq (⟨"ToldShields", "writeWord", "(LToldShields$Word;)V"⟩, 6) := ⟨⟨by decide +kernel, by decide +kernel⟩, List.mem_of_getElem? (i := 25) (by decide +kernel), List.mem_of_getElem? (i := 691) (by decide +kernel), List.mem_of_getElem? (i := 692) (by decide +kernel)⟩
theorem lw_p23 : lw_okq (⟨"ToldShieldsModel", "set", "(IJJ)V"⟩, 28) := ⟨⟨by decide +kernel, by decide +kernel⟩, List.mem_of_getElem? (i := 704) (by decide +kernel), List.mem_of_getElem? (i := 711) (by decide +kernel), List.mem_of_getElem? (i := 712) (by decide +kernel)⟩
theorem lw_p24 : lw_okq (⟨"ToldShieldsModel", "refused", "(I)Z"⟩, 28) := ⟨⟨by decide +kernel, by decide +kernel⟩, List.mem_of_getElem? (i := 704) (by decide +kernel), List.mem_of_getElem? (i := 852) (by decide +kernel), List.mem_of_getElem? (i := 853) (by decide +kernel)⟩
theorem lw_p25 : lw_okq (⟨"ToldShieldsModel", "cutWords", "()V"⟩, 28) := ⟨⟨by decide +kernel, by decide +kernel⟩, List.mem_of_getElem? (i := 704) (by decide +kernel), List.mem_of_getElem? (i := 856) (by decide +kernel), List.mem_of_getElem? (i := 857) (by decide +kernel)⟩
theorem lw_p26 : lw_okq (⟨"ToldShieldsModel", "find", "(II)I"⟩, 28) := ⟨⟨by decide +kernel, by decide +kernel⟩, List.mem_of_getElem? (i := 704) (by decide +kernel), List.mem_of_getElem? (i := 863) (by decide +kernel), List.mem_of_getElem? (i := 864) (by decide +kernel)⟩
theorem lw_p27 : lw_okq (⟨"ToldShieldsModel", "readAll", "()I"⟩, 28) := ⟨⟨by decide +kernel, by decide +kernel⟩, List.mem_of_getElem? (i := 704) (by decide +kernel), List.mem_of_getElem? (i := 868) (by decide +kernel), List.mem_of_getElem? (i := 869) (by decide +kernel)⟩
theorem lw_p28 : lw_okq (⟨"ToldShieldsModel", "newShield", "(I)I"⟩, 28) := ⟨⟨by decide +kernel, by decide +kernel⟩, List.mem_of_getElem? (i := 704) (by decide +kernel), List.mem_of_getElem? (i := 872) (by decide +kernel), List.mem_of_getElem? (i := 873) (by decide +kernel)⟩
theorem lw_p29 : lw_okq (⟨"ToldShieldsModel", "push", "(II)V"⟩, 28) := ⟨⟨by decide +kernel, by decide +kernel⟩, List.mem_of_getElem? (i := 704) (by decide +kernel), List.mem_of_getElem? (i := 876) (by decide +kernel), List.mem_of_getElem? (i := 877) (by decide +kernel)⟩
theorem lw_p30 : lw_okq (⟨"ToldShieldsModel", "take", "(III)I"⟩, 28) := ⟨⟨by decide +kernel, by decide +kernel⟩, List.mem_of_getElem? (i := 704) (by decide +kernel), List.mem_of_getElem? (i := 880) (by decide +kernel), List.mem_of_getElem? (i := 881) (by decide +kernel)⟩
theorem lw_p31 : lw_okq (⟨"ToldShieldsModel", "takeField", "(II)I"⟩, 28) := ⟨⟨by decide +kernel, by decide +kernel⟩, List.mem_of_getElem? (i := 704) (by decide +kernel), List.mem_of_getElem? (i := 884) (by decide +kernel), List.mem_of_getElem? (i := 885) (by decide +kernel)⟩
def lw_privs_2 : List (MethodName × Nat) := [(⟨"ToldShields$Charges", "chargeCovers", "(IIII)Z"⟩, 4), (⟨"ToldShields$Shield", "otherThan", "(I)I"⟩, 5), (⟨"ToldShields", "refuseNoPlace", "(I)V"⟩, 6), (⟨"ToldShields", "toldOf", "(I)LToldShields$Told;"⟩, 6), (⟨"ToldShields", "writePage", "(LToldShields$Told;Z)V"⟩, 6), (⟨"ToldShields", "writeChar", "(C)V"⟩, 6), (⟨"ToldShields", "writeWord", "(LToldShields$Word;)V"⟩, 6), (⟨"ToldShieldsModel", "set", "(IJJ)V"⟩, 28), (⟨"ToldShieldsModel", "refused", "(I)Z"⟩, 28), (⟨"ToldShieldsModel", "cutWords", "()V"⟩, 28), (⟨"ToldShieldsModel", "find", "(II)I"⟩, 28), (⟨"ToldShieldsModel", "readAll", "()I"⟩, 28), (⟨"ToldShieldsModel", "newShield", "(I)I"⟩, 28), (⟨"ToldShieldsModel", "push", "(II)V"⟩, 28), (⟨"ToldShieldsModel", "take", "(III)I"⟩, 28), (⟨"ToldShieldsModel", "takeField", "(II)I"⟩, 28)]
theorem lw_r2 : ∀ q ∈ lw_privs_2, lw_okq q := List.forall_mem_cons.mpr ⟨lw_p16, List.forall_mem_cons.mpr ⟨lw_p17, List.forall_mem_cons.mpr ⟨lw_p18, List.forall_mem_cons.mpr ⟨lw_p19, List.forall_mem_cons.mpr ⟨lw_p20, List.forall_mem_cons.mpr ⟨lw_p21, List.forall_mem_cons.mpr ⟨lw_p22, List.forall_mem_cons.mpr ⟨lw_p23, List.forall_mem_cons.mpr ⟨lw_p24, List.forall_mem_cons.mpr ⟨lw_p25, List.forall_mem_cons.mpr ⟨lw_p26, List.forall_mem_cons.mpr ⟨lw_p27, List.forall_mem_cons.mpr ⟨lw_p28, List.forall_mem_cons.mpr ⟨lw_p29, List.forall_mem_cons.mpr ⟨lw_p30, List.forall_mem_cons.mpr ⟨lw_p31, fun _ h => absurd h List.not_mem_nil⟩⟩⟩⟩⟩⟩⟩⟩⟩⟩⟩⟩⟩⟩⟩⟩
theorem lw_p32 : lw_okq (⟨"ToldShieldsModel", "takePart", "(II)I"⟩, 28) := ⟨⟨by decide +kernel, by decide +kernel⟩, List.mem_of_getElem? (i := 704) (by decide +kernel), List.mem_of_getElem? (i := 891) (by decide +kernel), List.mem_of_getElem? (i := 892) (by decide +kernel)⟩
theorem lw_p33 : lw_okq (⟨"ToldShieldsModel", "takeItems", "(II)I"⟩, 28) := ⟨⟨by decide +kernel, by decide +kernel⟩, List.mem_of_getElem? (i := 704) (by decide +kernel), List.mem_of_getElem? (i := 895) (by decide +kernel), List.mem_of_getElem? (i := 896) (by decide +kernel)⟩
theorem lw_p34 : lw_okq (⟨"ToldShieldsModel", "takeBehindA", "(II)I"⟩, 28) := ⟨⟨by decide +kernel, by decide +kernel⟩, List.mem_of_getElem? (i := 704) (by decide +kernel), List.mem_of_getElem? (i := 902) (by decide +kernel), List.mem_of_getElem? (i := 903) (by decide +kernel)⟩
theorem lw_p35 : lw_okq (⟨"ToldShieldsModel", "isTwofold", "(I)Z"⟩, 28) := ⟨⟨by decide +kernel, by decide +kernel⟩, List.mem_of_getElem? (i := 704) (by decide +kernel), List.mem_of_getElem? (i := 906) (by decide +kernel), List.mem_of_getElem? (i := 907) (by decide +kernel)⟩
theorem lw_p36 : lw_okq (⟨"ToldShieldsModel", "paint", "(II)I"⟩, 28) := ⟨⟨by decide +kernel, by decide +kernel⟩, List.mem_of_getElem? (i := 704) (by decide +kernel), List.mem_of_getElem? (i := 910) (by decide +kernel), List.mem_of_getElem? (i := 911) (by decide +kernel)⟩
theorem lw_p37 : lw_okq (⟨"ToldShieldsModel", "isFirst", "(IIIII)Z"⟩, 28) := ⟨⟨by decide +kernel, by decide +kernel⟩, List.mem_of_getElem? (i := 704) (by decide +kernel), List.mem_of_getElem? (i := 914) (by decide +kernel), List.mem_of_getElem? (i := 915) (by decide +kernel)⟩
theorem lw_p38 : lw_okq (⟨"ToldShieldsModel", "given", "(IZIIII)I"⟩, 28) := ⟨⟨by decide +kernel, by decide +kernel⟩, List.mem_of_getElem? (i := 704) (by decide +kernel), List.mem_of_getElem? (i := 918) (by decide +kernel), List.mem_of_getElem? (i := 919) (by decide +kernel)⟩
theorem lw_p39 : lw_okq (⟨"ToldShieldsModel", "isOnOrdinary", "(IIIII)Z"⟩, 28) := ⟨⟨by decide +kernel, by decide +kernel⟩, List.mem_of_getElem? (i := 704) (by decide +kernel), List.mem_of_getElem? (i := 940) (by decide +kernel), List.mem_of_getElem? (i := 941) (by decide +kernel)⟩
theorem lw_p40 : lw_okq (⟨"ToldShieldsModel", "countAll", "(I)V"⟩, 28) := ⟨⟨by decide +kernel, by decide +kernel⟩, List.mem_of_getElem? (i := 704) (by decide +kernel), List.mem_of_getElem? (i := 953) (by decide +kernel), List.mem_of_getElem? (i := 954) (by decide +kernel)⟩
theorem lw_p41 : lw_okq (⟨"ToldShieldsModel", "judge", "(I)V"⟩, 28) := ⟨⟨by decide +kernel, by decide +kernel⟩, List.mem_of_getElem? (i := 704) (by decide +kernel), List.mem_of_getElem? (i := 957) (by decide +kernel), List.mem_of_getElem? (i := 958) (by decide +kernel)⟩
theorem lw_p42 : lw_okq (⟨"ToldShieldsModel", "ground", "(I)I"⟩, 28) := ⟨⟨by decide +kernel, by decide +kernel⟩, List.mem_of_getElem? (i := 704) (by decide +kernel), List.mem_of_getElem? (i := 964) (by decide +kernel), List.mem_of_getElem? (i := 965) (by decide +kernel)⟩
theorem lw_p43 : lw_okq (⟨"ToldShieldsModel", "isBroken", "(II)Z"⟩, 28) := ⟨⟨by decide +kernel, by decide +kernel⟩, List.mem_of_getElem? (i := 704) (by decide +kernel), List.mem_of_getElem? (i := 968) (by decide +kernel), List.mem_of_getElem? (i := 969) (by decide +kernel)⟩
theorem lw_p44 : lw_okq (⟨"ToldShieldsModel", "wrong", "(IZ)I"⟩, 28) := ⟨⟨by decide +kernel, by decide +kernel⟩, List.mem_of_getElem? (i := 704) (by decide +kernel), List.mem_of_getElem? (i := 976) (by decide +kernel), List.mem_of_getElem? (i := 977) (by decide +kernel)⟩
theorem lw_p45 : lw_okq (⟨"ToldShieldsModel", "wrongTwo", "(II)I"⟩, 28) := ⟨⟨by decide +kernel, by decide +kernel⟩, List.mem_of_getElem? (i := 704) (by decide +kernel), List.mem_of_getElem? (i := 992) (by decide +kernel), List.mem_of_getElem? (i := 993) (by decide +kernel)⟩
theorem lw_p46 : lw_okq (⟨"ToldShieldsModel", "write", "(IZ)I"⟩, 28) := ⟨⟨by decide +kernel, by decide +kernel⟩, List.mem_of_getElem? (i := 704) (by decide +kernel), List.mem_of_getElem? (i := 1016) (by decide +kernel), List.mem_of_getElem? (i := 1017) (by decide +kernel)⟩
theorem lw_p47 : lw_okq (⟨"ToldShieldsModel", "put", "(I)V"⟩, 28) := ⟨⟨by decide +kernel, by decide +kernel⟩, List.mem_of_getElem? (i := 704) (by decide +kernel), List.mem_of_getElem? (i := 1023) (by decide +kernel), List.mem_of_getElem? (i := 1024) (by decide +kernel)⟩
def lw_privs_3 : List (MethodName × Nat) := [(⟨"ToldShieldsModel", "takePart", "(II)I"⟩, 28), (⟨"ToldShieldsModel", "takeItems", "(II)I"⟩, 28), (⟨"ToldShieldsModel", "takeBehindA", "(II)I"⟩, 28), (⟨"ToldShieldsModel", "isTwofold", "(I)Z"⟩, 28), (⟨"ToldShieldsModel", "paint", "(II)I"⟩, 28), (⟨"ToldShieldsModel", "isFirst", "(IIIII)Z"⟩, 28), (⟨"ToldShieldsModel", "given", "(IZIIII)I"⟩, 28), (⟨"ToldShieldsModel", "isOnOrdinary", "(IIIII)Z"⟩, 28), (⟨"ToldShieldsModel", "countAll", "(I)V"⟩, 28), (⟨"ToldShieldsModel", "judge", "(I)V"⟩, 28), (⟨"ToldShieldsModel", "ground", "(I)I"⟩, 28), (⟨"ToldShieldsModel", "isBroken", "(II)Z"⟩, 28), (⟨"ToldShieldsModel", "wrong", "(IZ)I"⟩, 28), (⟨"ToldShieldsModel", "wrongTwo", "(II)I"⟩, 28), (⟨"ToldShieldsModel", "write", "(IZ)I"⟩, 28), (⟨"ToldShieldsModel", "put", "(I)V"⟩, 28)]
theorem lw_r3 : ∀ q ∈ lw_privs_3, lw_okq q := List.forall_mem_cons.mpr ⟨lw_p32, List.forall_mem_cons.mpr ⟨lw_p33, List.forall_mem_cons.mpr ⟨lw_p34, List.forall_mem_cons.mpr ⟨lw_p35, List.forall_mem_cons.mpr ⟨lw_p36, List.forall_mem_cons.mpr ⟨lw_p37, List.forall_mem_cons.mpr ⟨lw_p38, List.forall_mem_cons.mpr ⟨lw_p39, List.forall_mem_cons.mpr ⟨lw_p40, List.forall_mem_cons.mpr ⟨lw_p41, List.forall_mem_cons.mpr ⟨lw_p42, List.forall_mem_cons.mpr ⟨lw_p43, List.forall_mem_cons.mpr ⟨lw_p44, List.forall_mem_cons.mpr ⟨lw_p45, List.forall_mem_cons.mpr ⟨lw_p46, List.forall_mem_cons.mpr ⟨lw_p47, fun _ h => absurd h List.not_mem_nil⟩⟩⟩⟩⟩⟩⟩⟩⟩⟩⟩⟩⟩⟩⟩⟩
theorem lw_p48 : lw_okq (⟨"ToldShieldsModel", "putLetters", "(J)V"⟩, 28) := ⟨⟨by decide +kernel, by decide +kernel⟩, List.mem_of_getElem? (i := 704) (by decide +kernel), List.mem_of_getElem? (i := 1027) (by decide +kernel), List.mem_of_getElem? (i := 1028) (by decide +kernel)⟩
def lw_privs_4 : List (MethodName × Nat) := [(⟨"ToldShieldsModel", "putLetters", "(J)V"⟩, 28)]
theorem lw_r4 : ∀ q ∈ lw_privs_4, lw_okq q := List.forall_mem_cons.mpr ⟨lw_p48, fun _ h => absurd h List.not_mem_nil⟩
def lw_privs : List (MethodName × Nat) := lw_privs_1 ++ (lw_privs_2 ++ (lw_privs_3 ++ (lw_privs_4)))
def lw_tbl : List Cond := k2_sels lw_privs ++ tables_1
theorem lw_privs_ok : ∀ q ∈ lw_privs, lw_okq q := by
  show ∀ q ∈ lw_privs_1 ++ (lw_privs_2 ++ (lw_privs_3 ++ (lw_privs_4))), lw_okq q
  exact List.forall_mem_append.mpr ⟨lw_r1, List.forall_mem_append.mpr ⟨lw_r2, List.forall_mem_append.mpr ⟨lw_r3, lw_r4⟩⟩⟩
end
section
/-! The tables of the small machine (20.machine), printed by wip/whole/gen.py out of the Statement. Methods, linked instructions (jumps are absolute; fields, classes, call sites by their numbers here; .monitorenter stands for the call of Object.<init>, .monitorexit for that of String.checkIndex, .instanceof for 'throw new X(message)'), fields, classes, what stands at the start. -/
abbrev am_C : Type := (Nat × List Value) ⊕ (Nat × List Value)
abbrev am_H : Type := List am_C
abbrev am_L : Type := List (Option Value)
abbrev am_S : Type := Nat × am_L × List Value × am_H
abbrev am_O : Type := Option Value ⊕ Nat
/-- ToldShieldsLaw.law([I)Z -/
def am_c0 : List (Nat × Instr × Nat) := [(0, .new 0, 3), (3, .dup, 1), (4, .invokespecial 0, 3), (7, .astore_n 1, 1), (8, .new 2, 3), (11, .dup, 1), (12, .invokespecial 1, 3), (15, .astore_n 2, 1), (16, .iconst 1, 1), (17, .newarray .long, 2), (19, .astore_n 3, 1), (20, .iconst 0, 1), (21, .istore 4, 2), (23, .iload 4, 2), (25, .aload_n 0, 1), (26, .arraylength, 1), (27, .iconst 4, 1), (28, .isub, 1), (29, .if_icmp .gt 927, 3), (32, .aload_n 0, 1), (33, .iload 4, 2), (35, .iaload, 1), (36, .bipush 15, 2), (38, .iand, 1), (39, .tableswitch 921 0 14 #[112, 139, 152, 208, 288, 368, 436, 504, 560, 628, 696, 771, 827, 883, 896], 73), (112, .aload_n 1, 1), (113, .aload_n 0, 1), (114, .iload 4, 2), (116, .iconst 1, 1), (117, .iadd, 1), (118, .iaload, 1), (119, .i2c, 1), (120, .invokevirtual 2, 3), (123, .aload_n 2, 1), (124, .aload_n 0, 1), (125, .iload 4, 2), (127, .iconst 1, 1), (128, .iadd, 1), (129, .iaload, 1), (130, .i2c, 1), (131, .invokevirtual 3, 3), (134, .if_icmp .eq 921, 3), (137, .iconst 0, 1), (138, .ireturn, 1), (139, .aload_n 1, 1), (140, .invokevirtual 4, 3), (143, .aload_n 2, 1), (144, .invokevirtual 5, 3), (147, .if_icmp .eq 921, 3), (150, .iconst 0, 1), (151, .ireturn, 1), (152, .aload_n 1, 1), (153, .aload_n 0, 1), (154, .iload 4, 2), (156, .iconst 1, 1), (157, .iadd, 1), (158, .iaload, 1), (159, .aload_n 3, 1), (160, .invokestatic 6, 3), (163, .istore 5, 2), (165, .aload_n 2, 1), (166, .aload_n 0, 1), (167, .iload 4, 2), (169, .iconst 1, 1), (170, .iadd, 1), (171, .iaload, 1), (172, .invokevirtual 7, 3), (175, .istore 6, 2), (177, .aload_n 2, 1), (178, .invokevirtual 8, 3), (181, .iload 5, 2), (183, .if_icmp .eq 188, 3), (186, .iconst 0, 1), (187, .ireturn, 1), (188, .iload 5, 2), (190, .ifCond .ne 205, 3), (193, .aload_n 3, 1), (194, .iconst 0, 1), (195, .laload, 1), (196, .iload 6, 2), (198, .i2l, 1), (199, .lcmp, 1), (200, .ifCond .eq 205, 3), (203, .iconst 0, 1), (204, .ireturn, 1), (205, .goto 921, 3), (208, .aload_n 1, 1), (209, .aload_n 0, 1), (210, .iload 4, 2), (212, .iconst 1, 1), (213, .iadd, 1), (214, .iaload, 1), (215, .aload_n 0, 1), (216, .iload 4, 2), (218, .iconst 2, 1), (219, .iadd, 1), (220, .iaload, 1), (221, .aload_n 0, 1), (222, .iload 4, 2), (224, .iconst 3, 1), (225, .iadd, 1), (226, .iaload, 1), (227, .aload_n 3, 1), (228, .invokestatic 9, 3), (231, .istore 5, 2), (233, .aload_n 2, 1), (234, .aload_n 0, 1), (235, .iload 4, 2), (237, .iconst 1, 1), (238, .iadd, 1), (239, .iaload, 1), (240, .aload_n 0, 1), (241, .iload 4, 2), (243, .iconst 2, 1), (244, .iadd, 1), (245, .iaload, 1), (246, .aload_n 0, 1), (247, .iload 4, 2), (249, .iconst 3, 1), (250, .iadd, 1), (251, .iaload, 1), (252, .invokevirtual 10, 3), (255, .istore 6, 2), (257, .aload_n 2, 1), (258, .invokevirtual 8, 3), (261, .iload 5, 2), (263, .if_icmp .eq 268, 3), (266, .iconst 0, 1), (267, .ireturn, 1), (268, .iload 5, 2), (270, .ifCond .ne 285, 3), (273, .aload_n 3, 1), (274, .iconst 0, 1), (275, .laload, 1), (276, .iload 6, 2), (278, .i2l, 1), (279, .lcmp, 1), (280, .ifCond .eq 285, 3), (283, .iconst 0, 1), (284, .ireturn, 1), (285, .goto 921, 3), (288, .aload_n 1, 1), (289, .aload_n 0, 1), (290, .iload 4, 2), (292, .iconst 1, 1), (293, .iadd, 1), (294, .iaload, 1), (295, .aload_n 0, 1), (296, .iload 4, 2), (298, .iconst 2, 1), (299, .iadd, 1), (300, .iaload, 1), (301, .aload_n 0, 1), (302, .iload 4, 2), (304, .iconst 3, 1), (305, .iadd, 1), (306, .iaload, 1), (307, .aload_n 3, 1), (308, .invokestatic 11, 3), (311, .istore 5, 2), (313, .aload_n 2, 1), (314, .aload_n 0, 1), (315, .iload 4, 2), (317, .iconst 1, 1), (318, .iadd, 1), (319, .iaload, 1), (320, .aload_n 0, 1), (321, .iload 4, 2), (323, .iconst 2, 1), (324, .iadd, 1), (325, .iaload, 1), (326, .aload_n 0, 1), (327, .iload 4, 2), (329, .iconst 3, 1), (330, .iadd, 1), (331, .iaload, 1), (332, .invokevirtual 12, 3), (335, .istore 6, 2), (337, .aload_n 2, 1), (338, .invokevirtual 8, 3), (341, .iload 5, 2), (343, .if_icmp .eq 348, 3), (346, .iconst 0, 1), (347, .ireturn, 1), (348, .iload 5, 2), (350, .ifCond .ne 365, 3), (353, .aload_n 3, 1), (354, .iconst 0, 1), (355, .laload, 1), (356, .iload 6, 2), (358, .i2l, 1), (359, .lcmp, 1), (360, .ifCond .eq 365, 3), (363, .iconst 0, 1), (364, .ireturn, 1), (365, .goto 921, 3), (368, .aload_n 1, 1), (369, .aload_n 0, 1), (370, .iload 4, 2), (372, .iconst 1, 1), (373, .iadd, 1), (374, .iaload, 1), (375, .aload_n 0, 1), (376, .iload 4, 2), (378, .iconst 2, 1), (379, .iadd, 1), (380, .iaload, 1), (381, .aload_n 3, 1), (382, .invokestatic 13, 3), (385, .istore 5, 2), (387, .aload_n 2, 1), (388, .aload_n 0, 1), (389, .iload 4, 2), (391, .iconst 1, 1), (392, .iadd, 1), (393, .iaload, 1), (394, .aload_n 0, 1), (395, .iload 4, 2), (397, .iconst 2, 1), (398, .iadd, 1), (399, .iaload, 1), (400, .invokevirtual 14, 3), (403, .istore 6, 2), (405, .aload_n 2, 1), (406, .invokevirtual 8, 3), (409, .iload 5, 2), (411, .if_icmp .eq 416, 3), (414, .iconst 0, 1), (415, .ireturn, 1), (416, .iload 5, 2), (418, .ifCond .ne 433, 3), (421, .aload_n 3, 1), (422, .iconst 0, 1), (423, .laload, 1), (424, .iload 6, 2), (426, .i2l, 1), (427, .lcmp, 1), (428, .ifCond .eq 433, 3), (431, .iconst 0, 1), (432, .ireturn, 1), (433, .goto 921, 3), (436, .aload_n 1, 1), (437, .aload_n 0, 1), (438, .iload 4, 2), (440, .iconst 1, 1), (441, .iadd, 1), (442, .iaload, 1), (443, .aload_n 0, 1), (444, .iload 4, 2), (446, .iconst 2, 1), (447, .iadd, 1), (448, .iaload, 1), (449, .aload_n 3, 1), (450, .invokestatic 15, 3), (453, .istore 5, 2), (455, .aload_n 2, 1), (456, .aload_n 0, 1), (457, .iload 4, 2), (459, .iconst 1, 1), (460, .iadd, 1), (461, .iaload, 1), (462, .aload_n 0, 1), (463, .iload 4, 2), (465, .iconst 2, 1), (466, .iadd, 1), (467, .iaload, 1), (468, .invokevirtual 16, 3), (471, .istore 6, 2), (473, .aload_n 2, 1), (474, .invokevirtual 8, 3), (477, .iload 5, 2), (479, .if_icmp .eq 484, 3), (482, .iconst 0, 1), (483, .ireturn, 1), (484, .iload 5, 2), (486, .ifCond .ne 501, 3), (489, .aload_n 3, 1), (490, .iconst 0, 1), (491, .laload, 1), (492, .iload 6, 2), (494, .i2l, 1), (495, .lcmp, 1), (496, .ifCond .eq 501, 3), (499, .iconst 0, 1), (500, .ireturn, 1), (501, .goto 921, 3), (504, .aload_n 1, 1), (505, .aload_n 0, 1), (506, .iload 4, 2), (508, .iconst 1, 1), (509, .iadd, 1), (510, .iaload, 1), (511, .aload_n 3, 1), (512, .invokestatic 17, 3), (515, .istore 5, 2), (517, .aload_n 2, 1), (518, .aload_n 0, 1), (519, .iload 4, 2), (521, .iconst 1, 1), (522, .iadd, 1), (523, .iaload, 1), (524, .invokevirtual 18, 3), (527, .istore 6, 2), (529, .aload_n 2, 1), (530, .invokevirtual 8, 3), (533, .iload 5, 2), (535, .if_icmp .eq 540, 3), (538, .iconst 0, 1), (539, .ireturn, 1), (540, .iload 5, 2), (542, .ifCond .ne 557, 3), (545, .aload_n 3, 1), (546, .iconst 0, 1), (547, .laload, 1), (548, .iload 6, 2), (550, .i2l, 1), (551, .lcmp, 1), (552, .ifCond .eq 557, 3), (555, .iconst 0, 1), (556, .ireturn, 1), (557, .goto 921, 3), (560, .aload_n 1, 1), (561, .aload_n 0, 1), (562, .iload 4, 2), (564, .iconst 1, 1), (565, .iadd, 1), (566, .iaload, 1), (567, .aload_n 0, 1), (568, .iload 4, 2), (570, .iconst 2, 1), (571, .iadd, 1), (572, .iaload, 1), (573, .aload_n 3, 1), (574, .invokestatic 19, 3), (577, .istore 5, 2), (579, .aload_n 2, 1), (580, .aload_n 0, 1), (581, .iload 4, 2), (583, .iconst 1, 1), (584, .iadd, 1), (585, .iaload, 1), (586, .aload_n 0, 1), (587, .iload 4, 2), (589, .iconst 2, 1), (590, .iadd, 1), (591, .iaload, 1), (592, .invokevirtual 20, 3), (595, .istore 6, 2), (597, .aload_n 2, 1), (598, .invokevirtual 8, 3), (601, .iload 5, 2), (603, .if_icmp .eq 608, 3), (606, .iconst 0, 1), (607, .ireturn, 1), (608, .iload 5, 2), (610, .ifCond .ne 625, 3), (613, .aload_n 3, 1), (614, .iconst 0, 1), (615, .laload, 1), (616, .iload 6, 2), (618, .i2l, 1), (619, .lcmp, 1), (620, .ifCond .eq 625, 3), (623, .iconst 0, 1), (624, .ireturn, 1), (625, .goto 921, 3), (628, .aload_n 1, 1), (629, .aload_n 0, 1), (630, .iload 4, 2), (632, .iconst 1, 1), (633, .iadd, 1), (634, .iaload, 1), (635, .aload_n 0, 1), (636, .iload 4, 2), (638, .iconst 2, 1), (639, .iadd, 1), (640, .iaload, 1), (641, .aload_n 3, 1), (642, .invokestatic 21, 3), (645, .istore 5, 2), (647, .aload_n 2, 1), (648, .aload_n 0, 1), (649, .iload 4, 2), (651, .iconst 1, 1), (652, .iadd, 1), (653, .iaload, 1), (654, .aload_n 0, 1), (655, .iload 4, 2), (657, .iconst 2, 1), (658, .iadd, 1), (659, .iaload, 1), (660, .invokevirtual 22, 3), (663, .istore 6, 2), (665, .aload_n 2, 1), (666, .invokevirtual 8, 3), (669, .iload 5, 2), (671, .if_icmp .eq 676, 3), (674, .iconst 0, 1), (675, .ireturn, 1), (676, .iload 5, 2), (678, .ifCond .ne 693, 3), (681, .aload_n 3, 1), (682, .iconst 0, 1), (683, .laload, 1), (684, .iload 6, 2), (686, .i2l, 1), (687, .lcmp, 1), (688, .ifCond .eq 693, 3), (691, .iconst 0, 1), (692, .ireturn, 1), (693, .goto 921, 3), (696, .aload_n 1, 1), (697, .aload_n 0, 1), (698, .iload 4, 2), (700, .iconst 1, 1), (701, .iadd, 1), (702, .iaload, 1), (703, .aload_n 0, 1), (704, .iload 4, 2), (706, .iconst 2, 1), (707, .iadd, 1), (708, .iaload, 1), (709, .aload_n 3, 1), (710, .invokestatic 23, 3), (713, .istore 5, 2), (715, .aload_n 2, 1), (716, .aload_n 0, 1), (717, .iload 4, 2), (719, .iconst 1, 1), (720, .iadd, 1), (721, .iaload, 1), (722, .aload_n 0, 1), (723, .iload 4, 2), (725, .iconst 2, 1), (726, .iadd, 1), (727, .iaload, 1), (728, .invokevirtual 24, 3), (731, .istore 6, 2), (733, .aload_n 2, 1), (734, .invokevirtual 8, 3), (737, .iload 5, 2), (739, .if_icmp .eq 744, 3), (742, .iconst 0, 1), (743, .ireturn, 1), (744, .iload 5, 2), (746, .ifCond .ne 768, 3), (749, .aload_n 3, 1), (750, .iconst 0, 1), (751, .laload, 1), (752, .iload 6, 2), (754, .ifCond .eq 761, 3), (757, .lconst 1, 1), (758, .goto 762, 3), (761, .lconst 0, 1), (762, .lcmp, 1), (763, .ifCond .eq 768, 3), (766, .iconst 0, 1), (767, .ireturn, 1), (768, .goto 921, 3), (771, .aload_n 1, 1), (772, .aload_n 0, 1), (773, .iload 4, 2), (775, .iconst 1, 1), (776, .iadd, 1), (777, .iaload, 1), (778, .aload_n 3, 1), (779, .invokestatic 25, 3), (782, .istore 5, 2), (784, .aload_n 2, 1), (785, .aload_n 0, 1), (786, .iload 4, 2), (788, .iconst 1, 1), (789, .iadd, 1), (790, .iaload, 1), (791, .invokevirtual 26, 3), (794, .istore 6, 2), (796, .aload_n 2, 1), (797, .invokevirtual 8, 3), (800, .iload 5, 2), (802, .if_icmp .eq 807, 3), (805, .iconst 0, 1), (806, .ireturn, 1), (807, .iload 5, 2), (809, .ifCond .ne 824, 3), (812, .aload_n 3, 1), (813, .iconst 0, 1), (814, .laload, 1), (815, .iload 6, 2), (817, .i2l, 1), (818, .lcmp, 1), (819, .ifCond .eq 824, 3), (822, .iconst 0, 1), (823, .ireturn, 1), (824, .goto 921, 3), (827, .aload_n 1, 1), (828, .aload_n 0, 1), (829, .iload 4, 2), (831, .iconst 1, 1), (832, .iadd, 1), (833, .iaload, 1), (834, .aload_n 3, 1), (835, .invokestatic 27, 3), (838, .istore 5, 2), (840, .aload_n 2, 1), (841, .aload_n 0, 1), (842, .iload 4, 2), (844, .iconst 1, 1), (845, .iadd, 1), (846, .iaload, 1), (847, .invokevirtual 28, 3), (850, .istore 6, 2), (852, .aload_n 2, 1), (853, .invokevirtual 8, 3), (856, .iload 5, 2), (858, .if_icmp .eq 863, 3), (861, .iconst 0, 1), (862, .ireturn, 1), (863, .iload 5, 2), (865, .ifCond .ne 880, 3), (868, .aload_n 3, 1), (869, .iconst 0, 1), (870, .laload, 1), (871, .iload 6, 2), (873, .i2l, 1), (874, .lcmp, 1), (875, .ifCond .eq 880, 3), (878, .iconst 0, 1), (879, .ireturn, 1), (880, .goto 921, 3), (883, .aload_n 1, 1), (884, .invokevirtual 29, 3), (887, .aload_n 2, 1), (888, .invokevirtual 30, 3), (891, .if_icmp .eq 921, 3), (894, .iconst 0, 1), (895, .ireturn, 1), (896, .aload_n 1, 1), (897, .aload_n 0, 1), (898, .iload 4, 2), (900, .iconst 1, 1), (901, .iadd, 1), (902, .iaload, 1), (903, .invokevirtual 31, 3), (906, .aload_n 2, 1), (907, .aload_n 0, 1), (908, .iload 4, 2), (910, .iconst 1, 1), (911, .iadd, 1), (912, .iaload, 1), (913, .invokevirtual 32, 3), (916, .if_icmp .eq 921, 3), (919, .iconst 0, 1), (920, .ireturn, 1), (921, .iinc 4 4, 3), (924, .goto 23, 3), (927, .iconst 1, 1), (928, .ireturn, 1)]
/-- ToldShields.<init>()V -/
def am_c1 : List (Nat × Instr × Nat) := [(0, .aload_n 0, 1), (1, .monitorenter, 3), (4, .aload_n 0, 1), (5, .bipush 120, 2), (7, .newarray .char, 2), (9, .putfield 10, 3), (12, .aload_n 0, 1), (13, .sipush 480, 3), (16, .newarray .char, 2), (18, .putfield 12, 3), (21, .aload_n 0, 1), (22, .iconst 3, 1), (23, .anewarray 5, 3), (26, .putfield 14, 3), (29, .aload_n 0, 1), (30, .new 1, 3), (33, .dup, 1), (34, .invokespecial 33, 3), (37, .putfield 15, 3), (40, .iconst 0, 1), (41, .istore_n 1, 1), (42, .iload_n 1, 1), (43, .iconst 3, 1), (44, .if_icmp .ge 66, 3), (47, .aload_n 0, 1), (48, .getfield 14, 3), (51, .iload_n 1, 1), (52, .new 1, 3), (55, .dup, 1), (56, .invokespecial 33, 3), (59, .aastore, 1), (60, .iinc 1 1, 3), (63, .goto 42, 3), (66, .return_, 1)]
/-- ToldShields$Told.<init>()V -/
def am_c2 : List (Nat × Instr × Nat) := [(0, .aload_n 0, 1), (1, .monitorenter, 3), (4, .aload_n 0, 1), (5, .bipush 120, 2), (7, .anewarray 4, 3), (10, .putfield 0, 3), (13, .aload_n 0, 1), (14, .sipush 576, 3), (17, .newarray .int, 2), (19, .putfield 2, 3), (22, .aload_n 0, 1), (23, .bipush 120, 2), (25, .newarray .int, 2), (27, .putfield 3, 3), (30, .return_, 1)]
/-- ToldShields.type(C)Z -/
def am_c3 : List (Nat × Instr × Nat) := [(0, .iload_n 1, 1), (1, .bipush 32, 2), (3, .if_icmp .lt 21, 3), (6, .iload_n 1, 1), (7, .bipush 126, 2), (9, .if_icmp .gt 21, 3), (12, .aload_n 0, 1), (13, .getfield 11, 3), (16, .bipush 120, 2), (18, .if_icmp .lt 23, 3), (21, .iconst 0, 1), (22, .ireturn, 1), (23, .aload_n 0, 1), (24, .getfield 10, 3), (27, .aload_n 0, 1), (28, .getfield 11, 3), (31, .iload_n 1, 1), (32, .castore, 1), (33, .aload_n 0, 1), (34, .dup, 1), (35, .getfield 11, 3), (38, .iconst 1, 1), (39, .iadd, 1), (40, .putfield 11, 3), (43, .iconst 1, 1), (44, .ireturn, 1)]
/-- ToldShields.wipe()I -/
def am_c4 : List (Nat × Instr × Nat) := [(0, .aload_n 0, 1), (1, .getfield 11, 3), (4, .istore_n 1, 1), (5, .aload_n 0, 1), (6, .iconst 0, 1), (7, .putfield 11, 3), (10, .iload_n 1, 1), (11, .ireturn, 1)]
/-- ToldShields.length()I -/
def am_c5 : List (Nat × Instr × Nat) := [(0, .aload_n 0, 1), (1, .getfield 13, 3), (4, .ireturn, 1)]
/-- ToldShields.charAt(I)C -/
def am_c6 : List (Nat × Instr × Nat) := [(0, .iload_n 1, 1), (1, .ifCond .lt 21, 3), (4, .iload_n 1, 1), (5, .aload_n 0, 1), (6, .getfield 13, 3), (9, .if_icmp .ge 21, 3), (12, .aload_n 0, 1), (13, .getfield 12, 3), (16, .iload_n 1, 1), (17, .caload, 1), (18, .goto 23, 3), (21, .bipush 32, 2), (23, .ireturn, 1)]
/-- ToldShieldsLaw.read(LToldShields;I[J)I -/
def am_c7 : List (Nat × Instr × Nat) := [(0, .aload_n 2, 1), (1, .iconst 0, 1), (2, .aload_n 0, 1), (3, .iload_n 1, 1), (4, .invokevirtual 34, 3), (7, .i2l, 1), (8, .lastore, 1), (9, .goto 15, 3), (12, .astore_n 3, 1), (13, .iconst 1, 1), (14, .ireturn, 1), (15, .iconst 0, 1), (16, .ireturn, 1)]
/-- ToldShields.read(I)I -/
def am_c8 : List (Nat × Instr × Nat) := [(0, .aload_n 0, 1), (1, .iload_n 1, 1), (2, .invokevirtual 35, 3), (5, .aload_n 0, 1), (6, .getfield 15, 3), (9, .aload_n 0, 1), (10, .getfield 10, 3), (13, .aload_n 0, 1), (14, .getfield 11, 3), (17, .invokevirtual 36, 3), (20, .aload_n 0, 1), (21, .iconst 0, 1), (22, .putfield 11, 3), (25, .new 3, 3), (28, .dup, 1), (29, .aload_n 0, 1), (30, .getfield 15, 3), (33, .invokespecial 37, 3), (36, .astore_n 2, 1), (37, .aload_n 2, 1), (38, .invokevirtual 38, 3), (41, .astore_n 3, 1), (42, .aload_n 3, 1), (43, .ifnonnull 53, 3), (46, .iconst (-1), 1), (47, .aload_n 2, 1), (48, .getfield 17, 3), (51, .isub, 1), (52, .ireturn, 1), (53, .aload_n 0, 1), (54, .getfield 15, 3), (57, .aload_n 3, 1), (58, .invokevirtual 39, 3), (61, .aload_n 0, 1), (62, .getfield 15, 3), (65, .iconst 1, 1), (66, .putfield 9, 3), (69, .aload_n 0, 1), (70, .getfield 14, 3), (73, .iload_n 1, 1), (74, .aaload, 1), (75, .astore 4, 2), (77, .aload_n 0, 1), (78, .getfield 14, 3), (81, .iload_n 1, 1), (82, .aload_n 0, 1), (83, .getfield 15, 3), (86, .aastore, 1), (87, .aload_n 0, 1), (88, .aload 4, 2), (90, .putfield 15, 3), (93, .aload_n 0, 1), (94, .getfield 14, 3), (97, .iload_n 1, 1), (98, .aaload, 1), (99, .getfield 1, 3), (102, .ireturn, 1)]
/-- ToldShields.refuseNoShield(I)V -/
def am_c9 : List (Nat × Instr × Nat) := [(0, .iload_n 1, 1), (1, .ifCond .lt 9, 3), (4, .iload_n 1, 1), (5, .iconst 3, 1), (6, .if_icmp .lt 19, 3), (9, .instanceof 8, 3), (12, .dup, 1), (19, .return_, 1)]
/-- ToldShields$Told.splitText([CI)V -/
def am_c10 : List (Nat × Instr × Nat) := [(0, .aload_n 0, 1), (1, .iconst 0, 1), (2, .putfield 1, 3), (5, .iconst 0, 1), (6, .istore_n 3, 1), (7, .iload_n 3, 1), (8, .iload_n 2, 1), (9, .if_icmp .ge 73, 3), (12, .iload_n 3, 1), (13, .iconst 1, 1), (14, .iadd, 1), (15, .istore 4, 2), (17, .aload_n 1, 1), (18, .iload_n 3, 1), (19, .caload, 1), (20, .invokestatic 40, 3), (23, .ifCond .eq 48, 3), (26, .iload 4, 2), (28, .iload_n 2, 1), (29, .if_icmp .ge 48, 3), (32, .aload_n 1, 1), (33, .iload 4, 2), (35, .caload, 1), (36, .invokestatic 40, 3), (39, .ifCond .eq 48, 3), (42, .iinc 4 1, 3), (45, .goto 26, 3), (48, .aload_n 1, 1), (49, .iload_n 3, 1), (50, .caload, 1), (51, .bipush 32, 2), (53, .if_icmp .eq 67, 3), (56, .aload_n 0, 1), (57, .aload_n 1, 1), (58, .iload_n 3, 1), (59, .iload 4, 2), (61, .invokestatic 41, 3), (64, .invokevirtual 42, 3), (67, .iload 4, 2), (69, .istore_n 3, 1), (70, .goto 7, 3), (73, .return_, 1)]
/-- ToldShields.isLetter(C)Z -/
def am_c11 : List (Nat × Instr × Nat) := [(0, .iload_n 0, 1), (1, .bipush 97, 2), (3, .if_icmp .lt 16, 3), (6, .iload_n 0, 1), (7, .bipush 122, 2), (9, .if_icmp .gt 16, 3), (12, .iconst 1, 1), (13, .goto 17, 3), (16, .iconst 0, 1), (17, .ireturn, 1)]
/-- ToldShields$Told.wordSpelled([CII)LToldShields$Word; -/
def am_c12 : List (Nat × Instr × Nat) := [(0, .iconst 0, 1), (1, .istore_n 3, 1), (2, .iload_n 3, 1), (3, .getstatic 0, 3), (6, .arraylength, 1), (7, .if_icmp .ge 36, 3), (10, .getstatic 0, 3), (13, .iload_n 3, 1), (14, .aaload, 1), (15, .aload_n 0, 1), (16, .iload_n 1, 1), (17, .iload_n 2, 1), (18, .invokevirtual 43, 3), (21, .ifCond .eq 30, 3), (24, .getstatic 0, 3), (27, .iload_n 3, 1), (28, .aaload, 1), (29, .areturn, 1), (30, .iinc 3 1, 3), (33, .goto 2, 3), (36, .getstatic 2, 3), (39, .areturn, 1)]
/-- ToldShields$Word.isSpelled([CII)Z -/
def am_c13 : List (Nat × Instr × Nat) := [(0, .iload_n 2, 1), (1, .ifCond .lt 23, 3), (4, .iload_n 3, 1), (5, .aload_n 1, 1), (6, .arraylength, 1), (7, .if_icmp .gt 23, 3), (10, .iload_n 3, 1), (11, .iload_n 2, 1), (12, .isub, 1), (13, .aload_n 0, 1), (14, .getfield 57, 3), (17, .invokevirtual 44, 3), (20, .if_icmp .eq 25, 3), (23, .iconst 0, 1), (24, .ireturn, 1), (25, .iconst 0, 1), (26, .istore 4, 2), (28, .iload 4, 2), (30, .aload_n 0, 1), (31, .getfield 57, 3), (34, .invokevirtual 44, 3), (37, .if_icmp .ge 66, 3), (40, .aload_n 1, 1), (41, .iload_n 2, 1), (42, .iload 4, 2), (44, .iadd, 1), (45, .caload, 1), (46, .aload_n 0, 1), (47, .getfield 57, 3), (50, .iload 4, 2), (52, .invokevirtual 45, 3), (55, .if_icmp .eq 60, 3), (58, .iconst 0, 1), (59, .ireturn, 1), (60, .iinc 4 1, 3), (63, .goto 28, 3), (66, .iconst 1, 1), (67, .ireturn, 1)]
/-- java/lang/String.length()I -/
def am_c14 : List (Nat × Instr × Nat) := [(0, .aload_n 0, 1), (1, .getfield 61, 3), (4, .arraylength, 1), (5, .aload_n 0, 1), (6, .invokevirtual 46, 3), (9, .ishr, 1), (10, .ireturn, 1)]
/-- java/lang/String.coder()B -/
def am_c15 : List (Nat × Instr × Nat) := [(0, .getstatic 1, 3), (3, .ifCond .eq 13, 3), (6, .aload_n 0, 1), (7, .getfield 62, 3), (10, .goto 14, 3), (13, .iconst 1, 1), (14, .ireturn, 1)]
/-- java/lang/String.charAt(I)C -/
def am_c16 : List (Nat × Instr × Nat) := [(0, .aload_n 0, 1), (1, .invokevirtual 47, 3), (4, .ifCond .eq 16, 3), (7, .aload_n 0, 1), (8, .getfield 61, 3), (11, .iload_n 1, 1), (12, .invokestatic 48, 3), (15, .ireturn, 1), (16, .aload_n 0, 1), (17, .getfield 61, 3), (20, .iload_n 1, 1), (24, .ireturn, 1)]
/-- java/lang/String.isLatin1()Z -/
def am_c17 : List (Nat × Instr × Nat) := [(0, .getstatic 1, 3), (3, .ifCond .eq 17, 3), (6, .aload_n 0, 1), (7, .getfield 62, 3), (10, .ifCond .ne 17, 3), (13, .iconst 1, 1), (14, .goto 18, 3), (17, .iconst 0, 1), (18, .ireturn, 1)]
/-- java/lang/StringLatin1.charAt([BI)C -/
def am_c18 : List (Nat × Instr × Nat) := [(0, .iload_n 1, 1), (1, .aload_n 0, 1), (2, .arraylength, 1), (3, .monitorexit, 3), (6, .aload_n 0, 1), (7, .iload_n 1, 1), (8, .baload, 1), (9, .sipush 255, 3), (12, .iand, 1), (13, .i2c, 1), (14, .ireturn, 1)]
/-- ToldShields$Told.addWord(LToldShields$Word;)V -/
def am_c19 : List (Nat × Instr × Nat) := [(0, .aload_n 0, 1), (1, .getfield 1, 3), (4, .bipush 120, 2), (6, .if_icmp .ge 29, 3), (9, .aload_n 0, 1), (10, .getfield 0, 3), (13, .aload_n 0, 1), (14, .getfield 1, 3), (17, .aload_n 1, 1), (18, .aastore, 1), (19, .aload_n 0, 1), (20, .dup, 1), (21, .getfield 1, 3), (24, .iconst 1, 1), (25, .iadd, 1), (26, .putfield 1, 3), (29, .return_, 1)]
/-- ToldShields$Reader.<init>(LToldShields$Told;)V -/
def am_c20 : List (Nat × Instr × Nat) := [(0, .aload_n 0, 1), (1, .monitorenter, 3), (4, .aload_n 0, 1), (5, .aload_n 1, 1), (6, .putfield 16, 3), (9, .return_, 1)]
/-- ToldShields$Reader.readWhole()LToldShields$Shield; -/
def am_c21 : List (Nat × Instr × Nat) := [(0, .aload_n 0, 1), (1, .getfield 16, 3), (4, .invokevirtual 49, 3), (7, .aload_n 0, 1), (8, .iconst 1, 1), (9, .invokevirtual 50, 3), (12, .astore_n 1, 1), (13, .aload_n 0, 1), (14, .getfield 17, 3), (17, .aload_n 0, 1), (18, .getfield 16, 3), (21, .getfield 1, 3), (24, .if_icmp .ne 31, 3), (27, .aload_n 1, 1), (28, .goto 32, 3), (31, .aconst_null, 1), (32, .areturn, 1)]
/-- ToldShields$Told.forgetCounts()V -/
def am_c22 : List (Nat × Instr × Nat) := [(0, .aload_n 0, 1), (1, .iconst 0, 1), (2, .putfield 4, 3), (5, .aload_n 0, 1), (6, .iconst 0, 1), (7, .putfield 5, 3), (10, .aload_n 0, 1), (11, .iconst 0, 1), (12, .putfield 6, 3), (15, .aload_n 0, 1), (16, .iconst 0, 1), (17, .putfield 7, 3), (20, .aload_n 0, 1), (21, .iconst 0, 1), (22, .putfield 8, 3), (25, .return_, 1)]
/-- ToldShields$Reader.readShield(I)LToldShields$Shield; -/
def am_c23 : List (Nat × Instr × Nat) := [(0, .aload_n 0, 1), (1, .getfield 16, 3), (4, .dup, 1), (5, .getfield 5, 3), (8, .iconst 1, 1), (9, .iadd, 1), (10, .putfield 5, 3), (13, .aload_n 0, 1), (14, .getfield 16, 3), (17, .aload_n 0, 1), (18, .getfield 16, 3), (21, .getfield 8, 3), (24, .iload_n 1, 1), (25, .dup_x2, 3), (28, .putfield 8, 3), (31, .aload_n 0, 1), (32, .iload_n 1, 1), (33, .invokevirtual 51, 3), (36, .astore_n 2, 1), (37, .aload_n 2, 1), (38, .ifnonnull 43, 3), (41, .aconst_null, 1), (42, .areturn, 1), (43, .iconst 0, 1), (44, .istore_n 3, 1), (45, .iload_n 3, 1), (46, .iconst 4, 1), (47, .if_icmp .ge 84, 3), (50, .aload_n 0, 1), (51, .getfield 16, 3), (54, .aload_n 0, 1), (55, .getfield 17, 3), (58, .invokevirtual 52, 3), (61, .getfield 58, 3), (64, .iconst 3, 1), (65, .if_icmp .ne 84, 3), (68, .aload_n 0, 1), (69, .aload_n 2, 1), (70, .invokevirtual 53, 3), (73, .ifCond .ne 78, 3), (76, .aconst_null, 1), (77, .areturn, 1), (78, .iinc 3 1, 3), (81, .goto 45, 3), (84, .aload_n 2, 1), (85, .areturn, 1)]
/-- java/lang/Math.max(II)I -/
def am_c24 : List (Nat × Instr × Nat) := [(0, .iload_n 0, 1), (1, .iload_n 1, 1), (2, .if_icmp .lt 9, 3), (5, .iload_n 0, 1), (6, .goto 10, 3), (9, .iload_n 1, 1), (10, .ireturn, 1)]
/-- ToldShields$Reader.readField(I)LToldShields$Shield; -/
def am_c25 : List (Nat × Instr × Nat) := [(0, .aload_n 0, 1), (1, .getfield 16, 3), (4, .aload_n 0, 1), (5, .getfield 17, 3), (8, .invokevirtual 52, 3), (11, .astore_n 2, 1), (12, .aload_n 2, 1), (13, .getfield 58, 3), (16, .iconst 1, 1), (17, .if_icmp .ne 53, 3), (20, .aload_n 0, 1), (21, .dup, 1), (22, .getfield 17, 3), (25, .iconst 1, 1), (26, .iadd, 1), (27, .putfield 17, 3), (30, .new 4, 3), (33, .dup, 1), (34, .aload_n 2, 1), (35, .getfield 59, 3), (38, .invokespecial 54, 3), (41, .astore_n 3, 1), (42, .new 5, 3), (45, .dup, 1), (46, .aconst_null, 1), (47, .aload_n 3, 1), (48, .aload_n 3, 1), (49, .invokespecial 55, 3), (52, .areturn, 1), (53, .aload_n 0, 1), (54, .invokevirtual 56, 3), (57, .astore_n 3, 1), (58, .aload_n 3, 1), (59, .ifnonnull 64, 3), (62, .aconst_null, 1), (63, .areturn, 1), (64, .aload_n 0, 1), (65, .iload_n 1, 1), (66, .invokevirtual 57, 3), (69, .astore 4, 2), (71, .aload 4, 2), (73, .ifnull 86, 3), (76, .aload_n 0, 1), (77, .getstatic 10, 3), (80, .invokevirtual 58, 3), (83, .ifCond .ne 88, 3), (86, .aconst_null, 1), (87, .areturn, 1), (88, .aload_n 0, 1), (89, .iload_n 1, 1), (90, .invokevirtual 57, 3), (93, .astore 5, 2), (95, .aload 5, 2), (97, .ifnonnull 104, 3), (100, .aconst_null, 1), (101, .goto 116, 3), (104, .new 5, 3), (107, .dup, 1), (108, .aload_n 3, 1), (109, .aload 4, 2), (111, .aload 5, 2), (113, .invokespecial 55, 3), (116, .areturn, 1)]
/-- ToldShields$Told.wordAt(I)LToldShields$Word; -/
def am_c26 : List (Nat × Instr × Nat) := [(0, .iload_n 1, 1), (1, .ifCond .lt 21, 3), (4, .iload_n 1, 1), (5, .aload_n 0, 1), (6, .getfield 1, 3), (9, .if_icmp .ge 21, 3), (12, .aload_n 0, 1), (13, .getfield 0, 3), (16, .iload_n 1, 1), (17, .aaload, 1), (18, .goto 24, 3), (21, .getstatic 2, 3), (24, .areturn, 1)]
/-- ToldShields$Plain.<init>(I)V -/
def am_c27 : List (Nat × Instr × Nat) := [(0, .aload_n 0, 1), (1, .monitorenter, 3), (4, .aload_n 0, 1), (5, .iload_n 1, 1), (6, .putfield 18, 3), (9, .return_, 1)]
/-- ToldShields$Shield.<init>(LToldShields$Word;LToldShields$Part;LToldShields$Part;)V -/
def am_c28 : List (Nat × Instr × Nat) := [(0, .aload_n 0, 1), (1, .monitorenter, 3), (4, .aload_n 0, 1), (5, .bipush 8, 2), (7, .anewarray 6, 3), (10, .putfield 22, 3), (13, .aload_n 0, 1), (14, .aload_n 1, 1), (15, .putfield 19, 3), (18, .aload_n 0, 1), (19, .aload_n 2, 1), (20, .putfield 20, 3), (23, .aload_n 0, 1), (24, .aload_n 3, 1), (25, .putfield 21, 3), (28, .return_, 1)]
/-- ToldShields$Reader.readDivision()LToldShields$Word; -/
def am_c29 : List (Nat × Instr × Nat) := [(0, .aload_n 0, 1), (1, .getstatic 3, 3), (4, .invokevirtual 58, 3), (7, .ifCond .eq 14, 3), (10, .getstatic 3, 3), (13, .areturn, 1), (14, .aload_n 0, 1), (15, .getstatic 4, 3), (18, .invokevirtual 58, 3), (21, .ifCond .ne 26, 3), (24, .aconst_null, 1), (25, .areturn, 1), (26, .aload_n 0, 1), (27, .getfield 16, 3), (30, .aload_n 0, 1), (31, .getfield 17, 3), (34, .invokevirtual 52, 3), (37, .astore_n 1, 1), (38, .aload_n 1, 1), (39, .invokevirtual 59, 3), (42, .ifCond .ne 47, 3), (45, .aconst_null, 1), (46, .areturn, 1), (47, .aload_n 0, 1), (48, .dup, 1), (49, .getfield 17, 3), (52, .iconst 1, 1), (53, .iadd, 1), (54, .putfield 17, 3), (57, .aload_n 1, 1), (58, .areturn, 1)]
/-- ToldShields$Reader.take(LToldShields$Word;)Z -/
def am_c30 : List (Nat × Instr × Nat) := [(0, .aload_n 0, 1), (1, .getfield 16, 3), (4, .aload_n 0, 1), (5, .getfield 17, 3), (8, .invokevirtual 52, 3), (11, .aload_n 1, 1), (12, .if_acmp .eq 17, 3), (15, .iconst 0, 1), (16, .ireturn, 1), (17, .aload_n 0, 1), (18, .dup, 1), (19, .getfield 17, 3), (22, .iconst 1, 1), (23, .iadd, 1), (24, .putfield 17, 3), (27, .iconst 1, 1), (28, .ireturn, 1)]
/-- ToldShields$Word.canFollowPer()Z -/
def am_c31 : List (Nat × Instr × Nat) := [(0, .aload_n 0, 1), (1, .getstatic 5, 3), (4, .if_acmp .eq 21, 3), (7, .aload_n 0, 1), (8, .getstatic 6, 3), (11, .if_acmp .eq 21, 3), (14, .aload_n 0, 1), (15, .getstatic 7, 3), (18, .if_acmp .ne 25, 3), (21, .iconst 1, 1), (22, .goto 26, 3), (25, .iconst 0, 1), (26, .ireturn, 1)]
/-- ToldShields$Reader.readPart(I)LToldShields$Part; -/
def am_c32 : List (Nat × Instr × Nat) := [(0, .aload_n 0, 1), (1, .getfield 16, 3), (4, .aload_n 0, 1), (5, .getfield 17, 3), (8, .invokevirtual 52, 3), (11, .astore_n 2, 1), (12, .aload_n 2, 1), (13, .getfield 58, 3), (16, .iconst 1, 1), (17, .if_icmp .ne 42, 3), (20, .aload_n 0, 1), (21, .dup, 1), (22, .getfield 17, 3), (25, .iconst 1, 1), (26, .iadd, 1), (27, .putfield 17, 3), (30, .new 4, 3), (33, .dup, 1), (34, .aload_n 2, 1), (35, .getfield 59, 3), (38, .invokespecial 54, 3), (41, .areturn, 1), (42, .iload_n 1, 1), (43, .iconst 3, 1), (44, .if_icmp .ge 57, 3), (47, .aload_n 0, 1), (48, .getstatic 8, 3), (51, .invokevirtual 58, 3), (54, .ifCond .ne 59, 3), (57, .aconst_null, 1), (58, .areturn, 1), (59, .aload_n 0, 1), (60, .iload_n 1, 1), (61, .iconst 1, 1), (62, .iadd, 1), (63, .invokevirtual 50, 3), (66, .astore_n 3, 1), (67, .aload_n 3, 1), (68, .ifnull 85, 3), (71, .aload_n 0, 1), (72, .getstatic 9, 3), (75, .invokevirtual 58, 3), (78, .ifCond .eq 85, 3), (81, .aload_n 3, 1), (82, .goto 86, 3), (85, .aconst_null, 1), (86, .areturn, 1)]
/-- ToldShields$Reader.readItem(LToldShields$Shield;)Z -/
def am_c33 : List (Nat × Instr × Nat) := [(0, .aload_n 0, 1), (1, .getfield 16, 3), (4, .dup, 1), (5, .getfield 6, 3), (8, .iconst 1, 1), (9, .iadd, 1), (10, .putfield 6, 3), (13, .aload_n 0, 1), (14, .getfield 16, 3), (17, .aload_n 0, 1), (18, .getfield 17, 3), (21, .invokevirtual 52, 3), (24, .getstatic 11, 3), (27, .if_acmp .ne 50, 3), (30, .aload_n 0, 1), (31, .getfield 16, 3), (34, .aload_n 0, 1), (35, .getfield 17, 3), (38, .iconst 1, 1), (39, .iadd, 1), (40, .invokevirtual 52, 3), (43, .getfield 58, 3), (46, .iconst 2, 1), (47, .if_icmp .eq 57, 3), (50, .aload_n 0, 1), (51, .aload_n 1, 1), (52, .aconst_null, 1), (53, .invokevirtual 60, 3), (56, .ireturn, 1), (57, .aload_n 0, 1), (58, .aload_n 1, 1), (59, .invokevirtual 61, 3), (62, .astore_n 2, 1), (63, .aload_n 2, 1), (64, .ifnonnull 69, 3), (67, .iconst 0, 1), (68, .ireturn, 1), (69, .aload_n 2, 1), (70, .getfield 28, 3), (73, .invokevirtual 62, 3), (76, .ifCond .eq 89, 3), (79, .aload_n 0, 1), (80, .getstatic 14, 3), (83, .invokevirtual 58, 3), (86, .ifCond .ne 91, 3), (89, .iconst 1, 1), (90, .ireturn, 1), (91, .aload_n 0, 1), (92, .getstatic 15, 3), (95, .invokevirtual 58, 3), (98, .ifCond .eq 114, 3), (101, .aload_n 0, 1), (102, .aload_n 1, 1), (103, .aload_n 2, 1), (104, .invokevirtual 60, 3), (107, .ifCond .eq 114, 3), (110, .iconst 1, 1), (111, .goto 115, 3), (114, .iconst 0, 1), (115, .ireturn, 1)]
/-- ToldShields$Reader.readCharges(LToldShields$Shield;LToldShields$Ordinary;)Z -/
def am_c34 : List (Nat × Instr × Nat) := [(0, .aload_n 0, 1), (1, .getfield 16, 3), (4, .aload_n 0, 1), (5, .getfield 17, 3), (8, .invokevirtual 52, 3), (11, .astore_n 3, 1), (12, .aload_n 3, 1), (13, .getfield 58, 3), (16, .iconst 3, 1), (17, .if_icmp .eq 22, 3), (20, .iconst 0, 1), (21, .ireturn, 1), (22, .aload_n 0, 1), (23, .dup, 1), (24, .getfield 17, 3), (27, .iconst 1, 1), (28, .iadd, 1), (29, .putfield 17, 3), (32, .aload_n 0, 1), (33, .getfield 16, 3), (36, .aload_n 0, 1), (37, .getfield 17, 3), (40, .invokevirtual 52, 3), (43, .astore 4, 2), (45, .aload 4, 2), (47, .getfield 58, 3), (50, .aload_n 3, 1), (51, .getstatic 11, 3), (54, .if_acmp .ne 61, 3), (57, .iconst 4, 1), (58, .goto 62, 3), (61, .iconst 5, 1), (62, .if_icmp .eq 67, 3), (65, .iconst 0, 1), (66, .ireturn, 1), (67, .aload_n 0, 1), (68, .dup, 1), (69, .getfield 17, 3), (72, .iconst 1, 1), (73, .iadd, 1), (74, .putfield 17, 3), (77, .aload_n 0, 1), (78, .aload_n 2, 1), (79, .ifnonnull 93, 3), (82, .aload_n 1, 1), (83, .invokevirtual 63, 3), (86, .ifCond .eq 93, 3), (89, .iconst 1, 1), (90, .goto 94, 3), (93, .iconst 0, 1), (94, .invokevirtual 64, 3), (97, .istore 5, 2), (99, .iload 5, 2), (101, .iconst (-1), 1), (102, .if_icmp .ne 107, 3), (105, .iconst 0, 1), (106, .ireturn, 1), (107, .aload_n 2, 1), (108, .ifnonnull 123, 3), (111, .aload_n 1, 1), (112, .iload 5, 2), (114, .invokevirtual 65, 3), (117, .ifCond .eq 148, 3), (120, .goto 135, 3), (123, .iload 5, 2), (125, .aload_n 2, 1), (126, .getfield 27, 3), (129, .invokestatic 66, 3), (132, .ifCond .eq 148, 3), (135, .aload_n 0, 1), (136, .getfield 16, 3), (139, .aload_n 0, 1), (140, .getfield 17, 3), (143, .iconst 1, 1), (144, .isub, 1), (145, .invokevirtual 67, 3), (148, .aload_n 2, 1), (149, .ifnonnull 156, 3), (152, .aconst_null, 1), (153, .goto 160, 3), (156, .aload_n 2, 1), (157, .getfield 28, 3), (160, .astore 6, 2), (162, .aload_n 1, 1), (163, .new 6, 3), (166, .dup, 1), (167, .aload 4, 2), (169, .aload_n 3, 1), (170, .getfield 59, 3), (173, .aload 6, 2), (175, .iload 5, 2), (177, .invokespecial 68, 3), (180, .invokevirtual 69, 3), (183, .aload_n 0, 1), (184, .getfield 16, 3), (187, .dup, 1), (188, .getfield 7, 3), (191, .aload_n 3, 1), (192, .getfield 59, 3), (195, .iadd, 1), (196, .putfield 7, 3), (199, .iconst 1, 1), (200, .ireturn, 1)]
/-- ToldShields$Shield.canBeCounterchanged()Z -/
def am_c35 : List (Nat × Instr × Nat) := [(0, .aload_n 0, 1), (1, .getfield 19, 3), (4, .ifnull 37, 3), (7, .aload_n 0, 1), (8, .getfield 20, 3), (11, .invokeinterface 70 1, 5), (16, .iconst (-1), 1), (17, .if_icmp .eq 37, 3), (20, .aload_n 0, 1), (21, .getfield 21, 3), (24, .invokeinterface 70 1, 5), (29, .iconst (-1), 1), (30, .if_icmp .eq 37, 3), (33, .iconst 1, 1), (34, .goto 38, 3), (37, .iconst 0, 1), (38, .ireturn, 1)]
/-- ToldShields$Plain.plainTincture()I -/
def am_c36 : List (Nat × Instr × Nat) := [(0, .aload_n 0, 1), (1, .getfield 18, 3), (4, .ireturn, 1)]
/-- ToldShields$Shield.plainTincture()I -/
def am_c37 : List (Nat × Instr × Nat) := [(0, .iconst (-1), 1), (1, .ireturn, 1)]
/-- ToldShields$Reader.readCoat(Z)I -/
def am_c38 : List (Nat × Instr × Nat) := [(0, .aload_n 0, 1), (1, .getfield 16, 3), (4, .aload_n 0, 1), (5, .getfield 17, 3), (8, .invokevirtual 52, 3), (11, .astore_n 2, 1), (12, .aload_n 2, 1), (13, .getfield 58, 3), (16, .iconst 1, 1), (17, .if_icmp .eq 33, 3), (20, .iload_n 1, 1), (21, .ifCond .eq 31, 3), (24, .aload_n 2, 1), (25, .getstatic 12, 3), (28, .if_acmp .eq 33, 3), (31, .iconst (-1), 1), (32, .ireturn, 1), (33, .aload_n 0, 1), (34, .dup, 1), (35, .getfield 17, 3), (38, .iconst 1, 1), (39, .iadd, 1), (40, .putfield 17, 3), (43, .aload_n 2, 1), (44, .getfield 59, 3), (47, .ireturn, 1)]
/-- ToldShields$Shield.isBrokenBy(I)Z -/
def am_c39 : List (Nat × Instr × Nat) := [(0, .iload_n 1, 1), (1, .aload_n 0, 1), (2, .getfield 20, 3), (5, .invokeinterface 70 1, 5), (10, .invokestatic 71, 3), (13, .ifCond .eq 36, 3), (16, .iload_n 1, 1), (17, .aload_n 0, 1), (18, .getfield 21, 3), (21, .invokeinterface 70 1, 5), (26, .invokestatic 71, 3), (29, .ifCond .eq 36, 3), (32, .iconst 1, 1), (33, .goto 37, 3), (36, .iconst 0, 1), (37, .ireturn, 1)]
/-- ToldShields.breaksLaw(II)Z -/
def am_c40 : List (Nat × Instr × Nat) := [(0, .iload_n 0, 1), (1, .ifCond .lt 20, 3), (4, .iload_n 0, 1), (5, .bipush 7, 2), (7, .if_icmp .ge 20, 3), (10, .iload_n 1, 1), (11, .ifCond .lt 20, 3), (14, .iload_n 1, 1), (15, .bipush 7, 2), (17, .if_icmp .lt 22, 3), (20, .iconst 0, 1), (21, .ireturn, 1), (22, .iload_n 0, 1), (23, .iconst 2, 1), (24, .if_icmp .ge 31, 3), (27, .iconst 1, 1), (28, .goto 32, 3), (31, .iconst 0, 1), (32, .iload_n 1, 1), (33, .iconst 2, 1), (34, .if_icmp .ge 41, 3), (37, .iconst 1, 1), (38, .goto 42, 3), (41, .iconst 0, 1), (42, .if_icmp .ne 49, 3), (45, .iconst 1, 1), (46, .goto 50, 3), (49, .iconst 0, 1), (50, .ireturn, 1)]
/-- ToldShields$Told.addBreach(I)V -/
def am_c41 : List (Nat × Instr × Nat) := [(0, .aload_n 0, 1), (1, .getfield 4, 3), (4, .bipush 120, 2), (6, .if_icmp .ge 29, 3), (9, .aload_n 0, 1), (10, .getfield 3, 3), (13, .aload_n 0, 1), (14, .getfield 4, 3), (17, .iload_n 1, 1), (18, .iastore, 1), (19, .aload_n 0, 1), (20, .dup, 1), (21, .getfield 4, 3), (24, .iconst 1, 1), (25, .iadd, 1), (26, .putfield 4, 3), (29, .return_, 1)]
/-- ToldShields$Charges.<init>(LToldShields$Word;ILToldShields$Word;I)V -/
def am_c42 : List (Nat × Instr × Nat) := [(0, .aload_n 0, 1), (1, .iload 4, 2), (3, .invokespecial 72, 3), (6, .aload_n 0, 1), (7, .aload_n 1, 1), (8, .putfield 24, 3), (11, .aload_n 0, 1), (12, .iload_n 2, 1), (13, .putfield 25, 3), (16, .aload_n 0, 1), (17, .aload_n 3, 1), (18, .putfield 26, 3), (21, .return_, 1)]
/-- ToldShields$Layer.<init>(I)V -/
def am_c43 : List (Nat × Instr × Nat) := [(0, .aload_n 0, 1), (1, .monitorenter, 3), (4, .aload_n 0, 1), (5, .iload_n 1, 1), (6, .putfield 27, 3), (9, .return_, 1)]
/-- ToldShields$Shield.addLayer(LToldShields$Layer;)V -/
def am_c44 : List (Nat × Instr × Nat) := [(0, .aload_n 0, 1), (1, .getfield 23, 3), (4, .bipush 8, 2), (6, .if_icmp .ge 29, 3), (9, .aload_n 0, 1), (10, .getfield 22, 3), (13, .aload_n 0, 1), (14, .getfield 23, 3), (17, .aload_n 1, 1), (18, .aastore, 1), (19, .aload_n 0, 1), (20, .dup, 1), (21, .getfield 23, 3), (24, .iconst 1, 1), (25, .iadd, 1), (26, .putfield 23, 3), (29, .return_, 1)]
/-- ToldShields$Reader.readOrdinary(LToldShields$Shield;)LToldShields$Ordinary; -/
def am_c45 : List (Nat × Instr × Nat) := [(0, .aload_n 0, 1), (1, .getfield 16, 3), (4, .aload_n 0, 1), (5, .getfield 17, 3), (8, .iconst 1, 1), (9, .iadd, 1), (10, .invokevirtual 52, 3), (13, .astore_n 2, 1), (14, .aload_n 0, 1), (15, .dup, 1), (16, .getfield 17, 3), (19, .iconst 2, 1), (20, .iadd, 1), (21, .putfield 17, 3), (24, .aload_n 0, 1), (25, .aload_n 1, 1), (26, .invokevirtual 63, 3), (29, .invokevirtual 64, 3), (32, .istore_n 3, 1), (33, .iload_n 3, 1), (34, .iconst (-1), 1), (35, .if_icmp .ne 40, 3), (38, .aconst_null, 1), (39, .areturn, 1), (40, .aload_n 1, 1), (41, .iload_n 3, 1), (42, .invokevirtual 65, 3), (45, .ifCond .eq 61, 3), (48, .aload_n 0, 1), (49, .getfield 16, 3), (52, .aload_n 0, 1), (53, .getfield 17, 3), (56, .iconst 1, 1), (57, .isub, 1), (58, .invokevirtual 67, 3), (61, .new 7, 3), (64, .dup, 1), (65, .aload_n 2, 1), (66, .iload_n 3, 1), (67, .invokespecial 73, 3), (70, .astore 4, 2), (72, .aload_n 1, 1), (73, .aload 4, 2), (75, .invokevirtual 69, 3), (78, .aload 4, 2), (80, .areturn, 1)]
/-- ToldShields$Ordinary.<init>(LToldShields$Word;I)V -/
def am_c46 : List (Nat × Instr × Nat) := [(0, .aload_n 0, 1), (1, .iload_n 2, 1), (2, .invokespecial 74, 3), (5, .aload_n 0, 1), (6, .aload_n 1, 1), (7, .putfield 28, 3), (10, .return_, 1)]
/-- ToldShields$Word.canBeCharged()Z -/
def am_c47 : List (Nat × Instr × Nat) := [(0, .aload_n 0, 1), (1, .getstatic 13, 3), (4, .if_acmp .eq 21, 3), (7, .aload_n 0, 1), (8, .getstatic 6, 3), (11, .if_acmp .eq 21, 3), (14, .aload_n 0, 1), (15, .getstatic 5, 3), (18, .if_acmp .ne 25, 3), (21, .iconst 1, 1), (22, .goto 26, 3), (25, .iconst 0, 1), (26, .ireturn, 1)]
/-- ToldShields$Told.paint(LToldShields$Shield;)V -/
def am_c48 : List (Nat × Instr × Nat) := [(0, .iconst 0, 1), (1, .istore_n 2, 1), (2, .iload_n 2, 1), (3, .aload_n 0, 1), (4, .getfield 2, 3), (7, .arraylength, 1), (8, .if_icmp .ge 39, 3), (11, .aload_n 0, 1), (12, .getfield 2, 3), (15, .iload_n 2, 1), (16, .aload_n 1, 1), (17, .iload_n 2, 1), (18, .bipush 24, 2), (20, .irem, 1), (21, .iload_n 2, 1), (22, .bipush 24, 2), (24, .idiv, 1), (25, .bipush 24, 2), (27, .bipush 24, 2), (29, .invokevirtual 75, 3), (32, .iastore, 1), (33, .iinc 2 1, 3), (36, .goto 2, 3), (39, .return_, 1)]
/-- ToldShields$Shield.tinctureAt(IIII)I -/
def am_c49 : List (Nat × Instr × Nat) := [(0, .aload_n 0, 1), (1, .iload_n 1, 1), (2, .iload_n 2, 1), (3, .iload_n 3, 1), (4, .iload 4, 2), (6, .invokevirtual 76, 3), (9, .istore 5, 2), (11, .aload_n 0, 1), (12, .getfield 23, 3), (15, .iconst 1, 1), (16, .isub, 1), (17, .istore 6, 2), (19, .iload 6, 2), (21, .ifCond .lt 79, 3), (24, .aload_n 0, 1), (25, .getfield 22, 3), (28, .iload 6, 2), (30, .aaload, 1), (31, .iload_n 1, 1), (32, .iload_n 2, 1), (33, .iload_n 3, 1), (34, .iload 4, 2), (36, .invokevirtual 77, 3), (39, .ifCond .eq 73, 3), (42, .aload_n 0, 1), (43, .getfield 22, 3), (46, .iload 6, 2), (48, .aaload, 1), (49, .getfield 27, 3), (52, .istore 7, 2), (54, .iload 7, 2), (56, .bipush 9, 2), (58, .if_icmp .ne 70, 3), (61, .aload_n 0, 1), (62, .iload 5, 2), (64, .invokevirtual 78, 3), (67, .goto 72, 3), (70, .iload 7, 2), (72, .ireturn, 1), (73, .iinc 6 (-1), 3), (76, .goto 19, 3), (79, .iload 5, 2), (81, .ireturn, 1)]
/-- ToldShields$Shield.fieldAt(IIII)I -/
def am_c50 : List (Nat × Instr × Nat) := [(0, .aload_n 0, 1), (1, .getfield 19, 3), (4, .ifnonnull 22, 3), (7, .aload_n 0, 1), (8, .getfield 20, 3), (11, .iload_n 1, 1), (12, .iload_n 2, 1), (13, .iload_n 3, 1), (14, .iload 4, 2), (16, .invokeinterface 79 5, 5), (21, .ireturn, 1), (22, .aload_n 0, 1), (23, .getfield 19, 3), (26, .getstatic 7, 3), (29, .if_acmp .ne 64, 3), (32, .iload_n 1, 1), (33, .iload 4, 2), (35, .imul, 1), (36, .iload_n 2, 1), (37, .iload_n 3, 1), (38, .imul, 1), (39, .if_icmp .lt 49, 3), (42, .aload_n 0, 1), (43, .getfield 20, 3), (46, .goto 53, 3), (49, .aload_n 0, 1), (50, .getfield 21, 3), (53, .iload_n 1, 1), (54, .iload_n 2, 1), (55, .iload_n 3, 1), (56, .iload 4, 2), (58, .invokeinterface 79 5, 5), (63, .ireturn, 1), (64, .aload_n 0, 1), (65, .getfield 19, 3), (68, .getstatic 6, 3), (71, .if_acmp .eq 85, 3), (74, .iload_n 1, 1), (75, .iload_n 3, 1), (76, .iconst 2, 1), (77, .idiv, 1), (78, .if_icmp .lt 85, 3), (81, .iconst 1, 1), (82, .goto 86, 3), (85, .iconst 0, 1), (86, .istore 5, 2), (88, .aload_n 0, 1), (89, .getfield 19, 3), (92, .getstatic 5, 3), (95, .if_acmp .eq 110, 3), (98, .iload_n 2, 1), (99, .iload 4, 2), (101, .iconst 2, 1), (102, .idiv, 1), (103, .if_icmp .lt 110, 3), (106, .iconst 1, 1), (107, .goto 111, 3), (110, .iconst 0, 1), (111, .istore 6, 2), (113, .aload_n 0, 1), (114, .getfield 19, 3), (117, .getstatic 6, 3), (120, .if_acmp .ne 127, 3), (123, .iload_n 3, 1), (124, .goto 143, 3), (127, .iload 5, 2), (129, .ifCond .eq 140, 3), (132, .iload_n 3, 1), (133, .iload_n 3, 1), (134, .iconst 2, 1), (135, .idiv, 1), (136, .isub, 1), (137, .goto 143, 3), (140, .iload_n 3, 1), (141, .iconst 2, 1), (142, .idiv, 1), (143, .istore 7, 2), (145, .aload_n 0, 1), (146, .getfield 19, 3), (149, .getstatic 5, 3), (152, .if_acmp .ne 160, 3), (155, .iload 4, 2), (157, .goto 179, 3), (160, .iload 6, 2), (162, .ifCond .eq 175, 3), (165, .iload 4, 2), (167, .iload 4, 2), (169, .iconst 2, 1), (170, .idiv, 1), (171, .isub, 1), (172, .goto 179, 3), (175, .iload 4, 2), (177, .iconst 2, 1), (178, .idiv, 1), (179, .istore 8, 2), (181, .iload 5, 2), (183, .iload 6, 2), (185, .if_icmp .ne 195, 3), (188, .aload_n 0, 1), (189, .getfield 20, 3), (192, .goto 199, 3), (195, .aload_n 0, 1), (196, .getfield 21, 3), (199, .astore 9, 2), (201, .aload 9, 2), (203, .iload 5, 2), (205, .ifCond .eq 216, 3), (208, .iload_n 1, 1), (209, .iload_n 3, 1), (210, .iconst 2, 1), (211, .idiv, 1), (212, .isub, 1), (213, .goto 217, 3), (216, .iload_n 1, 1), (217, .iload 6, 2), (219, .ifCond .eq 231, 3), (222, .iload_n 2, 1), (223, .iload 4, 2), (225, .iconst 2, 1), (226, .idiv, 1), (227, .isub, 1), (228, .goto 232, 3), (231, .iload_n 2, 1), (232, .iload 7, 2), (234, .iload 8, 2), (236, .invokeinterface 79 5, 5), (241, .ireturn, 1)]
/-- ToldShields$Plain.tinctureAt(IIII)I -/
def am_c51 : List (Nat × Instr × Nat) := [(0, .aload_n 0, 1), (1, .getfield 18, 3), (4, .ireturn, 1)]
/-- ToldShields$Charges.covers(IIII)Z -/
def am_c52 : List (Nat × Instr × Nat) := [(0, .aload_n 0, 1), (1, .getfield 26, 3), (4, .getstatic 13, 3), (7, .if_acmp .ne 23, 3), (10, .aload_n 0, 1), (11, .iload_n 1, 1), (12, .iload_n 2, 1), (13, .iload_n 3, 1), (14, .iload 4, 2), (16, .iconst 3, 1), (17, .idiv, 1), (18, .iconst 1, 1), (19, .invokevirtual 80, 3), (22, .ireturn, 1), (23, .aload_n 0, 1), (24, .getfield 26, 3), (27, .getstatic 6, 3), (30, .if_acmp .ne 56, 3), (33, .aload_n 0, 1), (34, .iload_n 1, 1), (35, .iload_n 2, 1), (36, .iload 4, 2), (38, .iconst 3, 1), (39, .idiv, 1), (40, .isub, 1), (41, .iload_n 3, 1), (42, .iload 4, 2), (44, .iconst 2, 1), (45, .iload 4, 2), (47, .iconst 3, 1), (48, .idiv, 1), (49, .imul, 1), (50, .isub, 1), (51, .iconst 1, 1), (52, .invokevirtual 80, 3), (55, .ireturn, 1), (56, .aload_n 0, 1), (57, .getfield 26, 3), (60, .getstatic 5, 3), (63, .if_acmp .ne 90, 3), (66, .aload_n 0, 1), (67, .iload_n 1, 1), (68, .iload_n 3, 1), (69, .iconst 3, 1), (70, .idiv, 1), (71, .isub, 1), (72, .iload_n 2, 1), (73, .iload_n 3, 1), (74, .iconst 2, 1), (75, .iload_n 3, 1), (76, .iconst 3, 1), (77, .idiv, 1), (78, .imul, 1), (79, .isub, 1), (80, .iload 4, 2), (82, .aload_n 0, 1), (83, .getfield 25, 3), (86, .invokevirtual 80, 3), (89, .ireturn, 1), (90, .aload_n 0, 1), (91, .iload_n 1, 1), (92, .iload_n 2, 1), (93, .iload_n 3, 1), (94, .iload 4, 2), (96, .aload_n 0, 1), (97, .getfield 25, 3), (100, .iconst 1, 1), (101, .iadd, 1), (102, .iconst 2, 1), (103, .idiv, 1), (104, .invokevirtual 80, 3), (107, .ireturn, 1)]
/-- ToldShields$Charges.rowsCover(IIIII)Z -/
def am_c53 : List (Nat × Instr × Nat) := [(0, .iconst 0, 1), (1, .istore 6, 2), (3, .iload 6, 2), (5, .iload 5, 2), (7, .if_icmp .ge 72, 3), (10, .iload 6, 2), (12, .iload 4, 2), (14, .imul, 1), (15, .iload 5, 2), (17, .idiv, 1), (18, .istore 7, 2), (20, .iload 6, 2), (22, .iconst 1, 1), (23, .iadd, 1), (24, .iload 4, 2), (26, .imul, 1), (27, .iload 5, 2), (29, .idiv, 1), (30, .istore 8, 2), (32, .iload 7, 2), (34, .iload_n 2, 1), (35, .if_icmp .gt 66, 3), (38, .iload_n 2, 1), (39, .iload 8, 2), (41, .if_icmp .ge 66, 3), (44, .aload_n 0, 1), (45, .iload_n 1, 1), (46, .iload_n 2, 1), (47, .iload 7, 2), (49, .isub, 1), (50, .iload_n 3, 1), (51, .iload 8, 2), (53, .iload 7, 2), (55, .isub, 1), (56, .aload_n 0, 1), (57, .iload 6, 2), (59, .invokevirtual 81, 3), (62, .invokevirtual 82, 3), (65, .ireturn, 1), (66, .iinc 6 1, 3), (69, .goto 3, 3), (72, .iconst 0, 1), (73, .ireturn, 1)]
/-- ToldShields$Charges.chargesInRow(I)I -/
def am_c54 : List (Nat × Instr × Nat) := [(0, .aload_n 0, 1), (1, .getfield 26, 3), (4, .getstatic 5, 3), (7, .if_acmp .ne 12, 3), (10, .iconst 1, 1), (11, .ireturn, 1), (12, .aload_n 0, 1), (13, .getfield 26, 3), (16, .ifnull 24, 3), (19, .aload_n 0, 1), (20, .getfield 25, 3), (23, .ireturn, 1), (24, .aload_n 0, 1), (25, .getfield 25, 3), (28, .bipush 6, 2), (30, .if_icmp .ne 39, 3), (33, .iconst 3, 1), (34, .iload_n 1, 1), (35, .isub, 1), (36, .goto 51, 3), (39, .iconst 2, 1), (40, .aload_n 0, 1), (41, .getfield 25, 3), (44, .iconst 2, 1), (45, .iload_n 1, 1), (46, .imul, 1), (47, .isub, 1), (48, .dup2_x1, 3), (51, .ireturn, 1)]
/-- java/lang/Math.min(II)I -/
def am_c55 : List (Nat × Instr × Nat) := [(0, .iload_n 0, 1), (1, .iload_n 1, 1), (2, .if_icmp .gt 9, 3), (5, .iload_n 0, 1), (6, .goto 10, 3), (9, .iload_n 1, 1), (10, .ireturn, 1)]
/-- ToldShields$Charges.rowCovers(IIIII)Z -/
def am_c56 : List (Nat × Instr × Nat) := [(0, .iconst 0, 1), (1, .istore 6, 2), (3, .iload 6, 2), (5, .iload 5, 2), (7, .if_icmp .ge 65, 3), (10, .iload 6, 2), (12, .iload_n 3, 1), (13, .imul, 1), (14, .iload 5, 2), (16, .idiv, 1), (17, .istore 7, 2), (19, .iload 6, 2), (21, .iconst 1, 1), (22, .iadd, 1), (23, .iload_n 3, 1), (24, .imul, 1), (25, .iload 5, 2), (27, .idiv, 1), (28, .istore 8, 2), (30, .iload 7, 2), (32, .iload_n 1, 1), (33, .if_icmp .gt 59, 3), (36, .iload_n 1, 1), (37, .iload 8, 2), (39, .if_icmp .ge 59, 3), (42, .aload_n 0, 1), (43, .iload_n 1, 1), (44, .iload 7, 2), (46, .isub, 1), (47, .iload_n 2, 1), (48, .iload 8, 2), (50, .iload 7, 2), (52, .isub, 1), (53, .iload 4, 2), (55, .invokevirtual 83, 3), (58, .ireturn, 1), (59, .iinc 6 1, 3), (62, .goto 3, 3), (65, .iconst 0, 1), (66, .ireturn, 1)]
/-- ToldShields$Charges.chargeCovers(IIII)Z -/
def am_c57 : List (Nat × Instr × Nat) := [(0, .iconst 2, 1), (1, .iload_n 1, 1), (2, .imul, 1), (3, .iconst 1, 1), (4, .iadd, 1), (5, .iload_n 3, 1), (6, .isub, 1), (7, .swap, 3), (10, .istore 5, 2), (12, .iconst 2, 1), (13, .iload_n 2, 1), (14, .imul, 1), (15, .iconst 1, 1), (16, .iadd, 1), (17, .iload 4, 2), (19, .isub, 1), (20, .swap, 3), (23, .istore 6, 2), (25, .getstatic 16, 3), (28, .aload_n 0, 1), (29, .getfield 24, 3), (32, .invokevirtual 84, 3), (35, .iaload, 1), (36, .tableswitch 138 8 11 #[68, 68, 113, 113], 32), (68, .bipush 16, 2), (70, .iload 5, 2), (72, .iload 5, 2), (74, .imul, 1), (75, .iload 4, 2), (77, .imul, 1), (78, .iload 4, 2), (80, .imul, 1), (81, .iload 6, 2), (83, .iload 6, 2), (85, .imul, 1), (86, .iload_n 3, 1), (87, .imul, 1), (88, .iload_n 3, 1), (89, .imul, 1), (90, .iadd, 1), (91, .imul, 1), (92, .bipush 9, 2), (94, .iload_n 3, 1), (95, .imul, 1), (96, .iload_n 3, 1), (97, .imul, 1), (98, .iload 4, 2), (100, .imul, 1), (101, .iload 4, 2), (103, .imul, 1), (104, .if_icmp .gt 111, 3), (107, .iconst 1, 1), (108, .goto 112, 3), (111, .iconst 0, 1), (112, .ireturn, 1), (113, .iconst 2, 1), (114, .iload 5, 2), (116, .imul, 1), (117, .iload_n 3, 1), (118, .if_icmp .gt 136, 3), (121, .iconst 4, 1), (122, .iload 6, 2), (124, .imul, 1), (125, .iconst 3, 1), (126, .iload 4, 2), (128, .imul, 1), (129, .if_icmp .gt 136, 3), (132, .iconst 1, 1), (133, .goto 137, 3), (136, .iconst 0, 1), (137, .ireturn, 1), (138, .iconst 4, 1), (139, .iload 5, 2), (141, .iload 4, 2), (143, .imul, 1), (144, .iload 6, 2), (146, .iload_n 3, 1), (147, .imul, 1), (148, .iadd, 1), (149, .imul, 1), (150, .iconst 3, 1), (151, .iload_n 3, 1), (152, .imul, 1), (153, .iload 4, 2), (155, .imul, 1), (156, .if_icmp .gt 163, 3), (159, .iconst 1, 1), (160, .goto 164, 3), (163, .iconst 0, 1), (164, .ireturn, 1)]
/-- java/lang/Math.abs(I)I -/
def am_c58 : List (Nat × Instr × Nat) := [(0, .iload_n 0, 1), (1, .ifCond .ge 9, 3), (4, .iload_n 0, 1), (5, .ineg, 1), (6, .goto 10, 3), (9, .iload_n 0, 1), (10, .ireturn, 1)]
/-- java/lang/Enum.ordinal()I -/
def am_c59 : List (Nat × Instr × Nat) := [(0, .aload_n 0, 1), (1, .getfield 60, 3), (4, .ireturn, 1)]
/-- ToldShields$Ordinary.covers(IIII)Z -/
def am_c60 : List (Nat × Instr × Nat) := [(0, .getstatic 16, 3), (3, .aload_n 0, 1), (4, .getfield 28, 3), (7, .invokevirtual 85, 3), (10, .iaload, 1), (11, .tableswitch 152 1 7 #[52, 66, 73, 79, 88, 111, 143], 41), (52, .iload_n 2, 1), (53, .iload 4, 2), (55, .iconst 3, 1), (56, .idiv, 1), (57, .if_icmp .ge 64, 3), (60, .iconst 1, 1), (61, .goto 65, 3), (64, .iconst 0, 1), (65, .ireturn, 1), (66, .iload_n 2, 1), (67, .iload 4, 2), (69, .invokestatic 86, 3), (72, .ireturn, 1), (73, .iload_n 1, 1), (74, .iload_n 3, 1), (75, .invokestatic 86, 3), (78, .ireturn, 1), (79, .iload_n 1, 1), (80, .iload_n 2, 1), (81, .iload_n 3, 1), (82, .iload 4, 2), (84, .invokestatic 87, 3), (87, .ireturn, 1), (88, .iload_n 2, 1), (89, .iload 4, 2), (91, .invokestatic 86, 3), (94, .ifCond .ne 105, 3), (97, .iload_n 1, 1), (98, .iload_n 3, 1), (99, .invokestatic 86, 3), (102, .ifCond .eq 109, 3), (105, .iconst 1, 1), (106, .goto 110, 3), (109, .iconst 0, 1), (110, .ireturn, 1), (111, .iload_n 1, 1), (112, .iload_n 2, 1), (113, .iload_n 3, 1), (114, .iload 4, 2), (116, .invokestatic 87, 3), (119, .ifCond .ne 137, 3), (122, .iload_n 3, 1), (123, .iconst 1, 1), (124, .isub, 1), (125, .iload_n 1, 1), (126, .isub, 1), (127, .iload_n 2, 1), (128, .iload_n 3, 1), (129, .iload 4, 2), (131, .invokestatic 87, 3), (134, .ifCond .eq 141, 3), (137, .iconst 1, 1), (138, .goto 142, 3), (141, .iconst 0, 1), (142, .ireturn, 1), (143, .iload_n 1, 1), (144, .iload_n 2, 1), (145, .iload_n 3, 1), (146, .iload 4, 2), (148, .invokestatic 88, 3), (151, .ireturn, 1), (152, .iload_n 1, 1), (153, .iload_n 3, 1), (154, .invokestatic 89, 3), (157, .ifCond .ne 169, 3), (160, .iload_n 2, 1), (161, .iload 4, 2), (163, .invokestatic 89, 3), (166, .ifCond .eq 173, 3), (169, .iconst 1, 1), (170, .goto 174, 3), (173, .iconst 0, 1), (174, .ireturn, 1)]
/-- ToldShields$Ordinary.isMiddle(II)Z -/
def am_c61 : List (Nat × Instr × Nat) := [(0, .iload_n 1, 1), (1, .iconst 3, 1), (2, .idiv, 1), (3, .iload_n 0, 1), (4, .if_icmp .gt 20, 3), (7, .iload_n 0, 1), (8, .iload_n 1, 1), (9, .iload_n 1, 1), (10, .iconst 3, 1), (11, .idiv, 1), (12, .isub, 1), (13, .if_icmp .ge 20, 3), (16, .iconst 1, 1), (17, .goto 21, 3), (20, .iconst 0, 1), (21, .ireturn, 1)]
/-- ToldShields$Ordinary.isBend(IIII)Z -/
def am_c62 : List (Nat × Instr × Nat) := [(0, .iconst 3, 1), (1, .iload_n 0, 1), (2, .iload_n 3, 1), (3, .imul, 1), (4, .iload_n 1, 1), (5, .iload_n 2, 1), (6, .imul, 1), (7, .isub, 1), (8, .swap, 3), (11, .imul, 1), (12, .iload_n 2, 1), (13, .iload_n 3, 1), (14, .imul, 1), (15, .iconst 2, 1), (16, .idiv, 1), (17, .if_icmp .gt 24, 3), (20, .iconst 1, 1), (21, .goto 25, 3), (24, .iconst 0, 1), (25, .ireturn, 1)]
/-- ToldShields$Ordinary.isChevron(IIII)Z -/
def am_c63 : List (Nat × Instr × Nat) := [(0, .iconst 2, 1), (1, .iload_n 1, 1), (2, .imul, 1), (3, .iload_n 2, 1), (4, .imul, 1), (5, .iconst 2, 1), (6, .iload_n 0, 1), (7, .imul, 1), (8, .iconst 1, 1), (9, .iadd, 1), (10, .iload_n 2, 1), (11, .isub, 1), (12, .swap, 3), (15, .iload_n 3, 1), (16, .imul, 1), (17, .isub, 1), (18, .iload_n 2, 1), (19, .iload_n 3, 1), (20, .imul, 1), (21, .iconst 2, 1), (22, .idiv, 1), (23, .isub, 1), (24, .istore 4, 2), (26, .iconst 0, 1), (27, .iload 4, 2), (29, .if_icmp .gt 44, 3), (32, .iload 4, 2), (34, .iload_n 2, 1), (35, .iload_n 3, 1), (36, .imul, 1), (37, .if_icmp .ge 44, 3), (40, .iconst 1, 1), (41, .goto 45, 3), (44, .iconst 0, 1), (45, .ireturn, 1)]
/-- ToldShields$Ordinary.isEdge(II)Z -/
def am_c64 : List (Nat × Instr × Nat) := [(0, .iload_n 0, 1), (1, .iload_n 1, 1), (2, .bipush 8, 2), (4, .idiv, 1), (5, .iconst 1, 1), (6, .iadd, 1), (7, .if_icmp .lt 22, 3), (10, .iload_n 0, 1), (11, .iload_n 1, 1), (12, .iload_n 1, 1), (13, .bipush 8, 2), (15, .idiv, 1), (16, .isub, 1), (17, .iconst 1, 1), (18, .isub, 1), (19, .if_icmp .lt 26, 3), (22, .iconst 1, 1), (23, .goto 27, 3), (26, .iconst 0, 1), (27, .ireturn, 1)]
/-- ToldShields$Shield.otherThan(I)I -/
def am_c65 : List (Nat × Instr × Nat) := [(0, .iload_n 1, 1), (1, .aload_n 0, 1), (2, .getfield 20, 3), (5, .invokeinterface 70 1, 5), (10, .if_icmp .ne 25, 3), (13, .aload_n 0, 1), (14, .getfield 21, 3), (17, .invokeinterface 70 1, 5), (22, .goto 34, 3), (25, .aload_n 0, 1), (26, .getfield 20, 3), (29, .invokeinterface 70 1, 5), (34, .ireturn, 1)]
/-- ToldShieldsLaw.cell(LToldShields;III[J)I -/
def am_c66 : List (Nat × Instr × Nat) := [(0, .aload 4, 2), (2, .iconst 0, 1), (3, .aload_n 0, 1), (4, .iload_n 1, 1), (5, .iload_n 2, 1), (6, .iload_n 3, 1), (7, .invokevirtual 90, 3), (10, .i2l, 1), (11, .lastore, 1), (12, .goto 23, 3), (15, .astore 5, 2), (17, .iconst 1, 1), (18, .ireturn, 1), (19, .astore 5, 2), (21, .iconst 2, 1), (22, .ireturn, 1), (23, .iconst 0, 1), (24, .ireturn, 1)]
/-- ToldShields.cell(III)I -/
def am_c67 : List (Nat × Instr × Nat) := [(0, .aload_n 0, 1), (1, .iload_n 2, 1), (2, .invokevirtual 91, 3), (5, .aload_n 0, 1), (6, .iload_n 3, 1), (7, .invokevirtual 91, 3), (10, .aload_n 0, 1), (11, .iload_n 1, 1), (12, .invokevirtual 92, 3), (15, .getfield 2, 3), (18, .iload_n 3, 1), (19, .bipush 24, 2), (21, .imul, 1), (22, .iload_n 2, 1), (23, .iadd, 1), (24, .iaload, 1), (25, .ireturn, 1)]
/-- ToldShields.refuseNoPlace(I)V -/
def am_c68 : List (Nat × Instr × Nat) := [(0, .iload_n 1, 1), (1, .ifCond .lt 10, 3), (4, .iload_n 1, 1), (5, .bipush 24, 2), (7, .if_icmp .lt 20, 3), (10, .instanceof 8, 3), (13, .dup, 1), (20, .return_, 1)]
/-- ToldShields.toldOf(I)LToldShields$Told; -/
def am_c69 : List (Nat × Instr × Nat) := [(0, .aload_n 0, 1), (1, .iload_n 1, 1), (2, .invokevirtual 35, 3), (5, .aload_n 0, 1), (6, .getfield 14, 3), (9, .iload_n 1, 1), (10, .aaload, 1), (11, .astore_n 2, 1), (12, .aload_n 2, 1), (13, .getfield 9, 3), (16, .ifCond .ne 29, 3), (19, .instanceof 9, 3), (22, .dup, 1), (29, .aload_n 2, 1), (30, .areturn, 1)]
/-- ToldShieldsLaw.row(LToldShields;III[J)I -/
def am_c70 : List (Nat × Instr × Nat) := [(0, .aload 4, 2), (2, .iconst 0, 1), (3, .aload_n 0, 1), (4, .iload_n 1, 1), (5, .iload_n 2, 1), (6, .iload_n 3, 1), (7, .invokevirtual 93, 3), (10, .i2l, 1), (11, .lastore, 1), (12, .goto 23, 3), (15, .astore 5, 2), (17, .iconst 1, 1), (18, .ireturn, 1), (19, .astore 5, 2), (21, .iconst 2, 1), (22, .ireturn, 1), (23, .iconst 0, 1), (24, .ireturn, 1)]
/-- ToldShields.row(III)I -/
def am_c71 : List (Nat × Instr × Nat) := [(0, .aload_n 0, 1), (1, .iload_n 2, 1), (2, .invokevirtual 91, 3), (5, .aload_n 0, 1), (6, .iload_n 1, 1), (7, .invokevirtual 92, 3), (10, .getfield 2, 3), (13, .astore 4, 2), (15, .iconst 0, 1), (16, .istore 5, 2), (18, .iconst 0, 1), (19, .istore 6, 2), (21, .iload 6, 2), (23, .bipush 24, 2), (25, .if_icmp .ge 57, 3), (28, .aload 4, 2), (30, .iload_n 2, 1), (31, .bipush 24, 2), (33, .imul, 1), (34, .iload 6, 2), (36, .iadd, 1), (37, .iaload, 1), (38, .iload_n 3, 1), (39, .if_icmp .ne 51, 3), (42, .iload 5, 2), (44, .iconst 1, 1), (45, .iload 6, 2), (47, .ishl, 1), (48, .iadd, 1), (49, .istore 5, 2), (51, .iinc 6 1, 3), (54, .goto 21, 3), (57, .iload 5, 2), (59, .ireturn, 1)]
/-- ToldShieldsLaw.cells(LToldShields;II[J)I -/
def am_c72 : List (Nat × Instr × Nat) := [(0, .aload_n 3, 1), (1, .iconst 0, 1), (2, .aload_n 0, 1), (3, .iload_n 1, 1), (4, .iload_n 2, 1), (5, .invokevirtual 94, 3), (8, .i2l, 1), (9, .lastore, 1), (10, .goto 21, 3), (13, .astore 4, 2), (15, .iconst 1, 1), (16, .ireturn, 1), (17, .astore 4, 2), (19, .iconst 2, 1), (20, .ireturn, 1), (21, .iconst 0, 1), (22, .ireturn, 1)]
/-- ToldShields.cells(II)I -/
def am_c73 : List (Nat × Instr × Nat) := [(0, .aload_n 0, 1), (1, .iload_n 1, 1), (2, .invokevirtual 92, 3), (5, .getfield 2, 3), (8, .astore_n 3, 1), (9, .iconst 0, 1), (10, .istore 4, 2), (12, .iconst 0, 1), (13, .istore 5, 2), (15, .iload 5, 2), (17, .aload_n 3, 1), (18, .arraylength, 1), (19, .if_icmp .ge 39, 3), (22, .aload_n 3, 1), (23, .iload 5, 2), (25, .iaload, 1), (26, .iload_n 2, 1), (27, .if_icmp .ne 33, 3), (30, .iinc 4 1, 3), (33, .iinc 5 1, 3), (36, .goto 15, 3), (39, .iload 4, 2), (41, .ireturn, 1)]
/-- ToldShieldsLaw.differ(LToldShields;II[J)I -/
def am_c74 : List (Nat × Instr × Nat) := [(0, .aload_n 3, 1), (1, .iconst 0, 1), (2, .aload_n 0, 1), (3, .iload_n 1, 1), (4, .iload_n 2, 1), (5, .invokevirtual 95, 3), (8, .i2l, 1), (9, .lastore, 1), (10, .goto 21, 3), (13, .astore 4, 2), (15, .iconst 1, 1), (16, .ireturn, 1), (17, .astore 4, 2), (19, .iconst 2, 1), (20, .ireturn, 1), (21, .iconst 0, 1), (22, .ireturn, 1)]
/-- ToldShields.differ(II)I -/
def am_c75 : List (Nat × Instr × Nat) := [(0, .aload_n 0, 1), (1, .iload_n 1, 1), (2, .invokevirtual 35, 3), (5, .aload_n 0, 1), (6, .iload_n 2, 1), (7, .invokevirtual 35, 3), (10, .aload_n 0, 1), (11, .iload_n 1, 1), (12, .invokevirtual 92, 3), (15, .getfield 2, 3), (18, .astore_n 3, 1), (19, .aload_n 0, 1), (20, .iload_n 2, 1), (21, .invokevirtual 92, 3), (24, .getfield 2, 3), (27, .astore 4, 2), (29, .iconst 0, 1), (30, .istore 5, 2), (32, .iconst 0, 1), (33, .istore 6, 2), (35, .iload 6, 2), (37, .sipush 576, 3), (40, .if_icmp .ge 64, 3), (43, .aload_n 3, 1), (44, .iload 6, 2), (46, .iaload, 1), (47, .aload 4, 2), (49, .iload 6, 2), (51, .iaload, 1), (52, .if_icmp .eq 58, 3), (55, .iinc 5 1, 3), (58, .iinc 6 1, 3), (61, .goto 35, 3), (64, .iload 5, 2), (66, .ireturn, 1)]
/-- ToldShieldsLaw.breaches(LToldShields;I[J)I -/
def am_c76 : List (Nat × Instr × Nat) := [(0, .aload_n 2, 1), (1, .iconst 0, 1), (2, .aload_n 0, 1), (3, .iload_n 1, 1), (4, .invokevirtual 96, 3), (7, .i2l, 1), (8, .lastore, 1), (9, .goto 18, 3), (12, .astore_n 3, 1), (13, .iconst 1, 1), (14, .ireturn, 1), (15, .astore_n 3, 1), (16, .iconst 2, 1), (17, .ireturn, 1), (18, .iconst 0, 1), (19, .ireturn, 1)]
/-- ToldShields.breaches(I)I -/
def am_c77 : List (Nat × Instr × Nat) := [(0, .aload_n 0, 1), (1, .iload_n 1, 1), (2, .invokevirtual 92, 3), (5, .getfield 4, 3), (8, .ireturn, 1)]
/-- ToldShieldsLaw.breach(LToldShields;II[J)I -/
def am_c78 : List (Nat × Instr × Nat) := [(0, .aload_n 3, 1), (1, .iconst 0, 1), (2, .aload_n 0, 1), (3, .iload_n 1, 1), (4, .iload_n 2, 1), (5, .invokevirtual 97, 3), (8, .i2l, 1), (9, .lastore, 1), (10, .goto 21, 3), (13, .astore 4, 2), (15, .iconst 1, 1), (16, .ireturn, 1), (17, .astore 4, 2), (19, .iconst 2, 1), (20, .ireturn, 1), (21, .iconst 0, 1), (22, .ireturn, 1)]
/-- ToldShields.breach(II)I -/
def am_c79 : List (Nat × Instr × Nat) := [(0, .aload_n 0, 1), (1, .iload_n 1, 1), (2, .invokevirtual 92, 3), (5, .astore_n 3, 1), (6, .iload_n 2, 1), (7, .ifCond .lt 27, 3), (10, .iload_n 2, 1), (11, .aload_n 3, 1), (12, .getfield 4, 3), (15, .if_icmp .ge 27, 3), (18, .aload_n 3, 1), (19, .getfield 3, 3), (22, .iload_n 2, 1), (23, .iaload, 1), (24, .goto 28, 3), (27, .iconst (-1), 1), (28, .ireturn, 1)]
/-- ToldShieldsLaw.count(LToldShields;II[J)I -/
def am_c80 : List (Nat × Instr × Nat) := [(0, .aload_n 3, 1), (1, .iconst 0, 1), (2, .aload_n 0, 1), (3, .iload_n 1, 1), (4, .iload_n 2, 1), (5, .invokevirtual 98, 3), (8, .i2l, 1), (9, .lastore, 1), (10, .goto 25, 3), (13, .astore 4, 2), (15, .iconst 1, 1), (16, .ireturn, 1), (17, .astore 4, 2), (19, .iconst 2, 1), (20, .ireturn, 1), (21, .astore 4, 2), (23, .iconst 3, 1), (24, .ireturn, 1), (25, .iconst 0, 1), (26, .ireturn, 1)]
/-- ToldShields.count(II)I -/
def am_c81 : List (Nat × Instr × Nat) := [(0, .aload_n 0, 1), (1, .iload_n 1, 1), (2, .invokevirtual 35, 3), (5, .iload_n 2, 1), (6, .ifCond .lt 14, 3), (9, .iload_n 2, 1), (10, .iconst 3, 1), (11, .if_icmp .le 24, 3), (14, .instanceof 10, 3), (17, .dup, 1), (24, .aload_n 0, 1), (25, .iload_n 1, 1), (26, .invokevirtual 92, 3), (29, .astore_n 3, 1), (30, .iload_n 2, 1), (31, .tableswitch 71 0 2 #[56, 61, 66], 25), (56, .aload_n 3, 1), (57, .getfield 5, 3), (60, .ireturn, 1), (61, .aload_n 3, 1), (62, .getfield 6, 3), (65, .ireturn, 1), (66, .aload_n 3, 1), (67, .getfield 7, 3), (70, .ireturn, 1), (71, .aload_n 3, 1), (72, .getfield 8, 3), (75, .ireturn, 1)]
/-- ToldShieldsLaw.same(LToldShields;II[J)I -/
def am_c82 : List (Nat × Instr × Nat) := [(0, .aload_n 3, 1), (1, .iconst 0, 1), (2, .aload_n 0, 1), (3, .iload_n 1, 1), (4, .iload_n 2, 1), (5, .invokevirtual 99, 3), (8, .ifCond .eq 15, 3), (11, .lconst 1, 1), (12, .goto 16, 3), (15, .lconst 0, 1), (16, .lastore, 1), (17, .goto 28, 3), (20, .astore 4, 2), (22, .iconst 1, 1), (23, .ireturn, 1), (24, .astore 4, 2), (26, .iconst 2, 1), (27, .ireturn, 1), (28, .iconst 0, 1), (29, .ireturn, 1)]
/-- ToldShields.same(II)Z -/
def am_c83 : List (Nat × Instr × Nat) := [(0, .aload_n 0, 1), (1, .iload_n 1, 1), (2, .invokevirtual 35, 3), (5, .aload_n 0, 1), (6, .iload_n 2, 1), (7, .invokevirtual 35, 3), (10, .aload_n 0, 1), (11, .iload_n 1, 1), (12, .invokevirtual 92, 3), (15, .aload_n 0, 1), (16, .iload_n 2, 1), (17, .invokevirtual 92, 3), (20, .invokevirtual 100, 3), (23, .ireturn, 1)]
/-- ToldShields$Told.hasWordsOf(LToldShields$Told;)Z -/
def am_c84 : List (Nat × Instr × Nat) := [(0, .aload_n 0, 1), (1, .getfield 1, 3), (4, .aload_n 1, 1), (5, .getfield 1, 3), (8, .if_icmp .eq 13, 3), (11, .iconst 0, 1), (12, .ireturn, 1), (13, .iconst 0, 1), (14, .istore_n 2, 1), (15, .iload_n 2, 1), (16, .aload_n 0, 1), (17, .getfield 1, 3), (20, .if_icmp .ge 46, 3), (23, .aload_n 0, 1), (24, .getfield 0, 3), (27, .iload_n 2, 1), (28, .aaload, 1), (29, .aload_n 1, 1), (30, .getfield 0, 3), (33, .iload_n 2, 1), (34, .aaload, 1), (35, .if_acmp .eq 40, 3), (38, .iconst 0, 1), (39, .ireturn, 1), (40, .iinc 2 1, 3), (43, .goto 15, 3), (46, .iconst 1, 1), (47, .ireturn, 1)]
/-- ToldShieldsLaw.tell(LToldShields;I[J)I -/
def am_c85 : List (Nat × Instr × Nat) := [(0, .aload_n 2, 1), (1, .iconst 0, 1), (2, .aload_n 0, 1), (3, .iload_n 1, 1), (4, .invokevirtual 101, 3), (7, .i2l, 1), (8, .lastore, 1), (9, .goto 18, 3), (12, .astore_n 3, 1), (13, .iconst 1, 1), (14, .ireturn, 1), (15, .astore_n 3, 1), (16, .iconst 2, 1), (17, .ireturn, 1), (18, .iconst 0, 1), (19, .ireturn, 1)]
/-- ToldShields.tell(I)I -/
def am_c86 : List (Nat × Instr × Nat) := [(0, .aload_n 0, 1), (1, .aload_n 0, 1), (2, .iload_n 1, 1), (3, .invokevirtual 92, 3), (6, .iconst 0, 1), (7, .invokevirtual 102, 3), (10, .aload_n 0, 1), (11, .getfield 13, 3), (14, .ireturn, 1)]
/-- ToldShields.writePage(LToldShields$Told;Z)V -/
def am_c87 : List (Nat × Instr × Nat) := [(0, .aload_n 0, 1), (1, .iconst 0, 1), (2, .putfield 13, 3), (5, .iconst 0, 1), (6, .istore_n 3, 1), (7, .iload_n 3, 1), (8, .aload_n 1, 1), (9, .getfield 1, 3), (12, .if_icmp .ge 57, 3), (15, .iload_n 3, 1), (16, .ifCond .le 25, 3), (19, .aload_n 0, 1), (20, .bipush 32, 2), (22, .invokevirtual 103, 3), (25, .aload_n 1, 1), (26, .getfield 0, 3), (29, .iload_n 3, 1), (30, .aaload, 1), (31, .astore 4, 2), (33, .aload_n 0, 1), (34, .iload_n 2, 1), (35, .ifCond .eq 46, 3), (38, .aload 4, 2), (40, .invokevirtual 104, 3), (43, .goto 48, 3), (46, .aload 4, 2), (48, .invokevirtual 105, 3), (51, .iinc 3 1, 3), (54, .goto 7, 3), (57, .return_, 1)]
/-- ToldShields.writeChar(C)V -/
def am_c88 : List (Nat × Instr × Nat) := [(0, .aload_n 0, 1), (1, .getfield 13, 3), (4, .sipush 480, 3), (7, .if_icmp .ge 30, 3), (10, .aload_n 0, 1), (11, .getfield 12, 3), (14, .aload_n 0, 1), (15, .getfield 13, 3), (18, .iload_n 1, 1), (19, .castore, 1), (20, .aload_n 0, 1), (21, .dup, 1), (22, .getfield 13, 3), (25, .iconst 1, 1), (26, .iadd, 1), (27, .putfield 13, 3), (30, .return_, 1)]
/-- ToldShields$Word.turnedWord()LToldShields$Word; -/
def am_c89 : List (Nat × Instr × Nat) := [(0, .aload_n 0, 1), (1, .getfield 58, 3), (4, .iconst 1, 1), (5, .if_icmp .ne 30, 3), (8, .aload_n 0, 1), (9, .getfield 59, 3), (12, .bipush 6, 2), (14, .if_icmp .ge 30, 3), (17, .getstatic 0, 3), (20, .aload_n 0, 1), (21, .getfield 59, 3), (24, .iconst 1, 1), (25, .ixor, 1), (26, .aaload, 1), (27, .goto 31, 3), (30, .aload_n 0, 1), (31, .areturn, 1)]
/-- ToldShields.writeWord(LToldShields$Word;)V -/
def am_c90 : List (Nat × Instr × Nat) := [(0, .iconst 0, 1), (1, .istore_n 2, 1), (2, .iload_n 2, 1), (3, .aload_n 1, 1), (4, .getfield 57, 3), (7, .invokevirtual 106, 3), (10, .if_icmp .ge 31, 3), (13, .aload_n 0, 1), (14, .aload_n 1, 1), (15, .getfield 57, 3), (18, .iload_n 2, 1), (19, .invokevirtual 107, 3), (22, .invokevirtual 103, 3), (25, .iinc 2 1, 3), (28, .goto 2, 3), (31, .return_, 1)]
/-- ToldShieldsLaw.turned(LToldShields;I[J)I -/
def am_c91 : List (Nat × Instr × Nat) := [(0, .aload_n 2, 1), (1, .iconst 0, 1), (2, .aload_n 0, 1), (3, .iload_n 1, 1), (4, .invokevirtual 108, 3), (7, .i2l, 1), (8, .lastore, 1), (9, .goto 18, 3), (12, .astore_n 3, 1), (13, .iconst 1, 1), (14, .ireturn, 1), (15, .astore_n 3, 1), (16, .iconst 2, 1), (17, .ireturn, 1), (18, .iconst 0, 1), (19, .ireturn, 1)]
/-- ToldShields.turned(I)I -/
def am_c92 : List (Nat × Instr × Nat) := [(0, .aload_n 0, 1), (1, .aload_n 0, 1), (2, .iload_n 1, 1), (3, .invokevirtual 92, 3), (6, .iconst 1, 1), (7, .invokevirtual 102, 3), (10, .aload_n 0, 1), (11, .getfield 13, 3), (14, .ireturn, 1)]
/-- ToldShieldsModel.<init>()V -/
def am_c93 : List (Nat × Instr × Nat) := [(0, .aload_n 0, 1), (1, .monitorenter, 3), (4, .aload_n 0, 1), (5, .bipush 120, 2), (7, .newarray .int, 2), (9, .putfield 31, 3), (12, .aload_n 0, 1), (13, .sipush 400, 3), (16, .newarray .int, 2), (18, .putfield 33, 3), (21, .aload_n 0, 1), (22, .bipush 37, 2), (24, .newarray .long, 2), (26, .putfield 34, 3), (29, .aload_n 0, 1), (30, .bipush 37, 2), (32, .newarray .long, 2), (34, .putfield 35, 3), (37, .aload_n 0, 1), (38, .sipush 360, 3), (41, .newarray .int, 2), (43, .putfield 36, 3), (46, .aload_n 0, 1), (47, .iconst 3, 1), (48, .newarray .int, 2), (50, .putfield 37, 3), (53, .aload_n 0, 1), (54, .sipush 1728, 3), (57, .newarray .int, 2), (59, .putfield 38, 3), (62, .aload_n 0, 1), (63, .bipush 120, 2), (65, .newarray .int, 2), (67, .putfield 39, 3), (70, .aload_n 0, 1), (71, .iconst 3, 1), (72, .newarray .int, 2), (74, .putfield 40, 3), (77, .aload_n 0, 1), (78, .bipush 12, 2), (80, .newarray .int, 2), (82, .putfield 41, 3), (85, .aload_n 0, 1), (86, .bipush 120, 2), (88, .newarray .int, 2), (90, .putfield 42, 3), (93, .aload_n 0, 1), (94, .sipush 300, 3), (97, .newarray .int, 2), (99, .putfield 45, 3), (102, .aload_n 0, 1), (103, .sipush 300, 3), (106, .newarray .int, 2), (108, .putfield 46, 3), (111, .aload_n 0, 1), (112, .bipush 40, 2), (114, .newarray .int, 2), (116, .putfield 48, 3), (119, .aload_n 0, 1), (120, .bipush 80, 2), (122, .newarray .int, 2), (124, .putfield 49, 3), (127, .aload_n 0, 1), (128, .bipush 40, 2), (130, .newarray .int, 2), (132, .putfield 50, 3), (135, .aload_n 0, 1), (136, .bipush 40, 2), (138, .newarray .int, 2), (140, .putfield 51, 3), (143, .aload_n 0, 1), (144, .sipush 160, 3), (147, .newarray .int, 2), (149, .putfield 52, 3), (152, .aload_n 0, 1), (153, .sipush 160, 3), (156, .newarray .int, 2), (158, .putfield 53, 3), (161, .aload_n 0, 1), (162, .sipush 160, 3), (165, .newarray .int, 2), (167, .putfield 54, 3), (170, .aload_n 0, 1), (171, .sipush 160, 3), (174, .newarray .int, 2), (176, .putfield 55, 3), (179, .aload_n 0, 1), (180, .sipush 160, 3), (183, .newarray .int, 2), (185, .putfield 56, 3), (188, .aload_n 0, 1), (189, .iconst 0, 1), (190, .ldc2_w 77, 3), (193, .lconst 0, 1), (194, .invokevirtual 109, 3), (197, .aload_n 0, 1), (198, .iconst 1, 1), (199, .ldc2_w 83, 3), (202, .lconst 0, 1), (203, .invokevirtual 109, 3), (206, .aload_n 0, 1), (207, .iconst 2, 1), (208, .ldc2_w 85, 3), (211, .lconst 0, 1), (212, .invokevirtual 109, 3), (215, .aload_n 0, 1), (216, .iconst 3, 1), (217, .ldc2_w 87, 3), (220, .lconst 0, 1), (221, .invokevirtual 109, 3), (224, .aload_n 0, 1), (225, .iconst 4, 1), (226, .ldc2_w 89, 3), (229, .lconst 0, 1), (230, .invokevirtual 109, 3), (233, .aload_n 0, 1), (234, .iconst 5, 1), (235, .ldc2_w 91, 3), (238, .lconst 0, 1), (239, .invokevirtual 109, 3), (242, .aload_n 0, 1), (243, .bipush 6, 2), (245, .ldc2_w 93, 3), (248, .lconst 0, 1), (249, .invokevirtual 109, 3), (252, .aload_n 0, 1), (253, .bipush 7, 2), (255, .ldc2_w 95, 3), (258, .lconst 0, 1), (259, .invokevirtual 109, 3), (262, .aload_n 0, 1), (263, .bipush 8, 2), (265, .ldc2_w 97, 3), (268, .lconst 0, 1), (269, .invokevirtual 109, 3), (272, .aload_n 0, 1), (273, .bipush 9, 2), (275, .ldc2_w 99, 3), (278, .lconst 0, 1), (279, .invokevirtual 109, 3), (282, .aload_n 0, 1), (283, .bipush 10, 2), (285, .ldc2_w 101, 3), (288, .lconst 0, 1), (289, .invokevirtual 109, 3), (292, .aload_n 0, 1), (293, .bipush 11, 2), (295, .ldc2_w 103, 3), (298, .lconst 0, 1), (299, .invokevirtual 109, 3), (302, .aload_n 0, 1), (303, .bipush 12, 2), (305, .ldc2_w 105, 3), (308, .lconst 0, 1), (309, .invokevirtual 109, 3), (312, .aload_n 0, 1), (313, .bipush 13, 2), (315, .ldc2_w 107, 3), (318, .ldc2_w 109, 3), (321, .invokevirtual 109, 3), (324, .aload_n 0, 1), (325, .bipush 14, 2), (327, .ldc2_w 111, 3), (330, .lconst 0, 1), (331, .invokevirtual 109, 3), (334, .aload_n 0, 1), (335, .bipush 17, 2), (337, .lconst 1, 1), (338, .lconst 0, 1), (339, .invokevirtual 109, 3), (342, .aload_n 0, 1), (343, .bipush 18, 2), (345, .ldc2_w 113, 3), (348, .lconst 0, 1), (349, .invokevirtual 109, 3), (352, .aload_n 0, 1), (353, .bipush 19, 2), (355, .ldc2_w 115, 3), (358, .lconst 0, 1), (359, .invokevirtual 109, 3), (362, .aload_n 0, 1), (363, .bipush 20, 2), (365, .ldc2_w 117, 3), (368, .lconst 0, 1), (369, .invokevirtual 109, 3), (372, .aload_n 0, 1), (373, .bipush 21, 2), (375, .ldc2_w 119, 3), (378, .lconst 0, 1), (379, .invokevirtual 109, 3), (382, .aload_n 0, 1), (383, .bipush 22, 2), (385, .ldc2_w 121, 3), (388, .lconst 0, 1), (389, .invokevirtual 109, 3), (392, .aload_n 0, 1), (393, .bipush 23, 2), (395, .ldc2_w 123, 3), (398, .lconst 0, 1), (399, .invokevirtual 109, 3), (402, .aload_n 0, 1), (403, .bipush 24, 2), (405, .ldc2_w 125, 3), (408, .lconst 0, 1), (409, .invokevirtual 109, 3), (412, .aload_n 0, 1), (413, .bipush 25, 2), (415, .ldc2_w 127, 3), (418, .lconst 0, 1), (419, .invokevirtual 109, 3), (422, .aload_n 0, 1), (423, .bipush 26, 2), (425, .ldc2_w 129, 3), (428, .lconst 0, 1), (429, .invokevirtual 109, 3), (432, .aload_n 0, 1), (433, .bipush 27, 2), (435, .ldc2_w 131, 3), (438, .lconst 0, 1), (439, .invokevirtual 109, 3), (442, .aload_n 0, 1), (443, .bipush 28, 2), (445, .ldc2_w 133, 3), (448, .lconst 0, 1), (449, .invokevirtual 109, 3), (452, .aload_n 0, 1), (453, .bipush 29, 2), (455, .ldc2_w 135, 3), (458, .lconst 0, 1), (459, .invokevirtual 109, 3), (462, .aload_n 0, 1), (463, .bipush 30, 2), (465, .ldc2_w 137, 3), (468, .lconst 0, 1), (469, .invokevirtual 109, 3), (472, .aload_n 0, 1), (473, .bipush 31, 2), (475, .ldc2_w 139, 3), (478, .lconst 0, 1), (479, .invokevirtual 109, 3), (482, .aload_n 0, 1), (483, .bipush 32, 2), (485, .ldc2_w 141, 3), (488, .lconst 0, 1), (489, .invokevirtual 109, 3), (492, .aload_n 0, 1), (493, .bipush 33, 2), (495, .ldc2_w 143, 3), (498, .lconst 0, 1), (499, .invokevirtual 109, 3), (502, .aload_n 0, 1), (503, .bipush 34, 2), (505, .ldc2_w 145, 3), (508, .lconst 0, 1), (509, .invokevirtual 109, 3), (512, .aload_n 0, 1), (513, .bipush 35, 2), (515, .ldc2_w 147, 3), (518, .lconst 0, 1), (519, .invokevirtual 109, 3), (522, .aload_n 0, 1), (523, .bipush 36, 2), (525, .ldc2_w 149, 3), (528, .ldc2_w 151, 3), (531, .invokevirtual 109, 3), (534, .return_, 1)]
/-- ToldShieldsModel.set(IJJ)V -/
def am_c94 : List (Nat × Instr × Nat) := [(0, .aload_n 0, 1), (1, .getfield 34, 3), (4, .iload_n 1, 1), (5, .lload_n 2, 1), (6, .lastore, 1), (7, .aload_n 0, 1), (8, .getfield 35, 3), (11, .iload_n 1, 1), (12, .lload 4, 2), (14, .lastore, 1), (15, .return_, 1)]
/-- ToldShieldsModel.thrown()I -/
def am_c95 : List (Nat × Instr × Nat) := [(0, .aload_n 0, 1), (1, .getfield 29, 3), (4, .ireturn, 1)]
/-- ToldShieldsModel.type(C)Z -/
def am_c96 : List (Nat × Instr × Nat) := [(0, .aload_n 0, 1), (1, .iconst 0, 1), (2, .putfield 29, 3), (5, .iload_n 1, 1), (6, .bipush 32, 2), (8, .if_icmp .lt 26, 3), (11, .iload_n 1, 1), (12, .bipush 126, 2), (14, .if_icmp .gt 26, 3), (17, .aload_n 0, 1), (18, .getfield 30, 3), (21, .bipush 120, 2), (23, .if_icmp .ne 28, 3), (26, .iconst 0, 1), (27, .ireturn, 1), (28, .aload_n 0, 1), (29, .getfield 31, 3), (32, .aload_n 0, 1), (33, .getfield 30, 3), (36, .iload_n 1, 1), (37, .iastore, 1), (38, .aload_n 0, 1), (39, .dup, 1), (40, .getfield 30, 3), (43, .iconst 1, 1), (44, .iadd, 1), (45, .putfield 30, 3), (48, .iconst 1, 1), (49, .ireturn, 1)]
/-- ToldShieldsModel.wipe()I -/
def am_c97 : List (Nat × Instr × Nat) := [(0, .aload_n 0, 1), (1, .iconst 0, 1), (2, .putfield 29, 3), (5, .aload_n 0, 1), (6, .getfield 30, 3), (9, .istore_n 1, 1), (10, .aload_n 0, 1), (11, .iconst 0, 1), (12, .putfield 30, 3), (15, .iload_n 1, 1), (16, .ireturn, 1)]
/-- ToldShieldsModel.read(I)I -/
def am_c98 : List (Nat × Instr × Nat) := [(0, .aload_n 0, 1), (1, .iload_n 1, 1), (2, .ifCond .lt 10, 3), (5, .iload_n 1, 1), (6, .iconst 2, 1), (7, .if_icmp .le 14, 3), (10, .iconst 1, 1), (11, .goto 15, 3), (14, .iconst 0, 1), (15, .invokevirtual 110, 3), (18, .ifCond .eq 23, 3), (21, .iconst 0, 1), (22, .ireturn, 1), (23, .aload_n 0, 1), (24, .invokevirtual 111, 3), (27, .aload_n 0, 1), (28, .invokevirtual 112, 3), (31, .istore_n 2, 1), (32, .iload_n 2, 1), (33, .ifCond .lt 40, 3), (36, .iconst (-1), 1), (37, .iload_n 2, 1), (38, .isub, 1), (39, .ireturn, 1), (40, .aload_n 0, 1), (41, .getfield 37, 3), (44, .iload_n 1, 1), (45, .aload_n 0, 1), (46, .getfield 43, 3), (49, .iastore, 1), (50, .iconst 0, 1), (51, .istore_n 3, 1), (52, .iload_n 3, 1), (53, .aload_n 0, 1), (54, .getfield 43, 3), (57, .if_icmp .ge 83, 3), (60, .aload_n 0, 1), (61, .getfield 36, 3), (64, .bipush 120, 2), (66, .iload_n 1, 1), (67, .imul, 1), (68, .iload_n 3, 1), (69, .iadd, 1), (70, .aload_n 0, 1), (71, .getfield 42, 3), (74, .iload_n 3, 1), (75, .iaload, 1), (76, .iastore, 1), (77, .iinc 3 1, 3), (80, .goto 52, 3), (83, .iconst 0, 1), (84, .istore_n 3, 1), (85, .iload_n 3, 1), (86, .sipush 576, 3), (89, .if_icmp .ge 122, 3), (92, .aload_n 0, 1), (93, .getfield 38, 3), (96, .sipush 576, 3), (99, .iload_n 1, 1), (100, .imul, 1), (101, .iload_n 3, 1), (102, .iadd, 1), (103, .aload_n 0, 1), (104, .iload_n 3, 1), (105, .bipush 24, 2), (107, .irem, 1), (108, .iload_n 3, 1), (109, .bipush 24, 2), (111, .idiv, 1), (112, .invokevirtual 113, 3), (115, .iastore, 1), (116, .iinc 3 1, 3), (119, .goto 85, 3), (122, .aload_n 0, 1), (123, .iload_n 1, 1), (124, .invokevirtual 114, 3), (127, .aload_n 0, 1), (128, .iload_n 1, 1), (129, .invokevirtual 115, 3), (132, .aload_n 0, 1), (133, .getfield 43, 3), (136, .ireturn, 1)]
/-- ToldShieldsModel.refused(I)Z -/
def am_c99 : List (Nat × Instr × Nat) := [(0, .aload_n 0, 1), (1, .iload_n 1, 1), (2, .putfield 29, 3), (5, .iload_n 1, 1), (6, .ifCond .le 13, 3), (9, .iconst 1, 1), (10, .goto 14, 3), (13, .iconst 0, 1), (14, .ireturn, 1)]
/-- ToldShieldsModel.cutWords()V -/
def am_c100 : List (Nat × Instr × Nat) := [(0, .aload_n 0, 1), (1, .iconst 0, 1), (2, .putfield 43, 3), (5, .iconst 0, 1), (6, .istore_n 1, 1), (7, .iload_n 1, 1), (8, .aload_n 0, 1), (9, .getfield 30, 3), (12, .if_icmp .ge 147, 3), (15, .iload_n 1, 1), (16, .istore_n 2, 1), (17, .iload_n 2, 1), (18, .aload_n 0, 1), (19, .getfield 30, 3), (22, .if_icmp .ge 43, 3), (25, .aload_n 0, 1), (26, .getfield 31, 3), (29, .iload_n 2, 1), (30, .iaload, 1), (31, .invokestatic 116, 3), (34, .ifCond .eq 43, 3), (37, .iinc 2 1, 3), (40, .goto 17, 3), (43, .iload_n 2, 1), (44, .iload_n 1, 1), (45, .if_icmp .le 78, 3), (48, .aload_n 0, 1), (49, .getfield 42, 3), (52, .aload_n 0, 1), (53, .getfield 43, 3), (56, .aload_n 0, 1), (57, .iload_n 1, 1), (58, .iload_n 2, 1), (59, .invokevirtual 117, 3), (62, .iastore, 1), (63, .aload_n 0, 1), (64, .dup, 1), (65, .getfield 43, 3), (68, .iconst 1, 1), (69, .iadd, 1), (70, .putfield 43, 3), (73, .iload_n 2, 1), (74, .istore_n 1, 1), (75, .goto 144, 3), (78, .aload_n 0, 1), (79, .getfield 31, 3), (82, .iload_n 1, 1), (83, .iaload, 1), (84, .bipush 32, 2), (86, .if_icmp .eq 141, 3), (89, .aload_n 0, 1), (90, .getfield 42, 3), (93, .aload_n 0, 1), (94, .getfield 43, 3), (97, .aload_n 0, 1), (98, .getfield 31, 3), (101, .iload_n 1, 1), (102, .iaload, 1), (103, .bipush 40, 2), (105, .if_icmp .ne 113, 3), (108, .bipush 15, 2), (110, .goto 130, 3), (113, .aload_n 0, 1), (114, .getfield 31, 3), (117, .iload_n 1, 1), (118, .iaload, 1), (119, .bipush 41, 2), (121, .if_icmp .ne 129, 3), (124, .bipush 16, 2), (126, .goto 130, 3), (129, .iconst (-1), 1), (130, .iastore, 1), (131, .aload_n 0, 1), (132, .dup, 1), (133, .getfield 43, 3), (136, .iconst 1, 1), (137, .iadd, 1), (138, .putfield 43, 3), (141, .iinc 1 1, 3), (144, .goto 7, 3), (147, .aload_n 0, 1), (148, .iconst 0, 1), (149, .putfield 30, 3), (152, .return_, 1)]
/-- ToldShieldsModel.isLetter(I)Z -/
def am_c101 : List (Nat × Instr × Nat) := [(0, .iload_n 0, 1), (1, .bipush 97, 2), (3, .if_icmp .lt 16, 3), (6, .iload_n 0, 1), (7, .bipush 122, 2), (9, .if_icmp .gt 16, 3), (12, .iconst 1, 1), (13, .goto 17, 3), (16, .iconst 0, 1), (17, .ireturn, 1)]
/-- ToldShieldsModel.find(II)I -/
def am_c102 : List (Nat × Instr × Nat) := [(0, .iload_n 2, 1), (1, .iload_n 1, 1), (2, .isub, 1), (3, .bipush 16, 2), (5, .if_icmp .le 10, 3), (8, .iconst (-1), 1), (9, .ireturn, 1), (10, .lconst 0, 1), (11, .lstore_n 3, 1), (12, .lconst 0, 1), (13, .lstore 5, 2), (15, .iload_n 1, 1), (16, .istore 7, 2), (18, .iload 7, 2), (20, .iload_n 2, 1), (21, .if_icmp .ge 93, 3), (24, .aload_n 0, 1), (25, .getfield 31, 3), (28, .iload 7, 2), (30, .iaload, 1), (31, .bipush 97, 2), (33, .isub, 1), (34, .iconst 1, 1), (35, .iadd, 1), (36, .istore 8, 2), (38, .iload 7, 2), (40, .iload_n 1, 1), (41, .isub, 1), (42, .bipush 8, 2), (44, .if_icmp .ge 59, 3), (47, .ldc2_w 160, 3), (50, .lload_n 3, 1), (51, .lmul, 1), (52, .iload 8, 2), (54, .i2l, 1), (55, .ladd, 1), (56, .goto 60, 3), (59, .lload_n 3, 1), (60, .lstore_n 3, 1), (61, .iload 7, 2), (63, .iload_n 1, 1), (64, .isub, 1), (65, .bipush 8, 2), (67, .if_icmp .ge 75, 3), (70, .lload 5, 2), (72, .goto 85, 3), (75, .ldc2_w 160, 3), (78, .lload 5, 2), (80, .lmul, 1), (81, .iload 8, 2), (83, .i2l, 1), (84, .ladd, 1), (85, .lstore 5, 2), (87, .iinc 7 1, 3), (90, .goto 18, 3), (93, .iconst (-1), 1), (94, .istore 7, 2), (96, .iconst 0, 1), (97, .istore 8, 2), (99, .iload 8, 2), (101, .bipush 37, 2), (103, .if_icmp .ge 158, 3), (106, .aload_n 0, 1), (107, .getfield 34, 3), (110, .iload 8, 2), (112, .laload, 1), (113, .lconst 0, 1), (114, .lcmp, 1), (115, .ifCond .le 148, 3), (118, .aload_n 0, 1), (119, .getfield 34, 3), (122, .iload 8, 2), (124, .laload, 1), (125, .lload_n 3, 1), (126, .lcmp, 1), (127, .ifCond .ne 148, 3), (130, .aload_n 0, 1), (131, .getfield 35, 3), (134, .iload 8, 2), (136, .laload, 1), (137, .lload 5, 2), (139, .lcmp, 1), (140, .ifCond .ne 148, 3), (143, .iload 8, 2), (145, .goto 150, 3), (148, .iload 7, 2), (150, .istore 7, 2), (152, .iinc 8 1, 3), (155, .goto 99, 3), (158, .iload 7, 2), (160, .ireturn, 1)]
/-- ToldShieldsModel.readAll()I -/
def am_c103 : List (Nat × Instr × Nat) := [(0, .aload_n 0, 1), (1, .iconst 0, 1), (2, .putfield 44, 3), (5, .aload_n 0, 1), (6, .iconst 0, 1), (7, .putfield 47, 3), (10, .aload_n 0, 1), (11, .bipush 50, 2), (13, .aload_n 0, 1), (14, .iconst 1, 1), (15, .invokevirtual 118, 3), (18, .invokevirtual 119, 3), (21, .iconst 0, 1), (22, .istore_n 1, 1), (23, .iload_n 1, 1), (24, .aload_n 0, 1), (25, .getfield 43, 3), (28, .if_icmp .gt 138, 3), (31, .iload_n 1, 1), (32, .aload_n 0, 1), (33, .getfield 43, 3), (36, .if_icmp .ge 48, 3), (39, .aload_n 0, 1), (40, .getfield 42, 3), (43, .iload_n 1, 1), (44, .iaload, 1), (45, .goto 50, 3), (48, .bipush (-2), 2), (50, .istore_n 2, 1), (51, .iconst 2, 1), (52, .istore_n 3, 1), (53, .iload_n 3, 1), (54, .iconst 2, 1), (55, .if_icmp .ne 102, 3), (58, .aload_n 0, 1), (59, .getfield 44, 3), (62, .ifCond .le 102, 3), (65, .aload_n 0, 1), (66, .dup, 1), (67, .getfield 44, 3), (70, .iconst 1, 1), (71, .isub, 1), (72, .putfield 44, 3), (75, .aload_n 0, 1), (76, .aload_n 0, 1), (77, .getfield 45, 3), (80, .aload_n 0, 1), (81, .getfield 44, 3), (84, .iaload, 1), (85, .aload_n 0, 1), (86, .getfield 46, 3), (89, .aload_n 0, 1), (90, .getfield 44, 3), (93, .iaload, 1), (94, .iload_n 2, 1), (95, .invokevirtual 120, 3), (98, .istore_n 3, 1), (99, .goto 53, 3), (102, .iload_n 1, 1), (103, .aload_n 0, 1), (104, .getfield 43, 3), (107, .if_icmp .ge 118, 3), (110, .iload_n 3, 1), (111, .iconst 1, 1), (112, .if_icmp .eq 132, 3), (115, .goto 130, 3), (118, .iload_n 3, 1), (119, .iconst 2, 1), (120, .if_icmp .ne 130, 3), (123, .aload_n 0, 1), (124, .getfield 44, 3), (127, .ifCond .le 132, 3), (130, .iload_n 1, 1), (131, .ireturn, 1), (132, .iinc 1 1, 3), (135, .goto 23, 3), (138, .iconst (-1), 1), (139, .ireturn, 1)]
/-- ToldShieldsModel.newShield(I)I -/
def am_c104 : List (Nat × Instr × Nat) := [(0, .aload_n 0, 1), (1, .getfield 48, 3), (4, .aload_n 0, 1), (5, .getfield 47, 3), (8, .iconst 0, 1), (9, .iastore, 1), (10, .aload_n 0, 1), (11, .getfield 50, 3), (14, .aload_n 0, 1), (15, .getfield 47, 3), (18, .iload_n 1, 1), (19, .iastore, 1), (20, .aload_n 0, 1), (21, .getfield 51, 3), (24, .aload_n 0, 1), (25, .getfield 47, 3), (28, .iconst 0, 1), (29, .iastore, 1), (30, .aload_n 0, 1), (31, .dup, 1), (32, .getfield 47, 3), (35, .iconst 1, 1), (36, .iadd, 1), (37, .putfield 47, 3), (40, .aload_n 0, 1), (41, .getfield 47, 3), (44, .iconst 1, 1), (45, .isub, 1), (46, .ireturn, 1)]
/-- ToldShieldsModel.push(II)V -/
def am_c105 : List (Nat × Instr × Nat) := [(0, .aload_n 0, 1), (1, .getfield 45, 3), (4, .aload_n 0, 1), (5, .getfield 44, 3), (8, .iload_n 1, 1), (9, .iastore, 1), (10, .aload_n 0, 1), (11, .getfield 46, 3), (14, .aload_n 0, 1), (15, .getfield 44, 3), (18, .iload_n 2, 1), (19, .iastore, 1), (20, .aload_n 0, 1), (21, .dup, 1), (22, .getfield 44, 3), (25, .iconst 1, 1), (26, .iadd, 1), (27, .putfield 44, 3), (30, .return_, 1)]
/-- ToldShieldsModel.take(III)I -/
def am_c106 : List (Nat × Instr × Nat) := [(0, .iload_n 1, 1), (1, .tableswitch 356 50 61 #[64, 71, 122, 129, 136, 143, 199, 266, 290, 171, 143, 246], 63), (64, .aload_n 0, 1), (65, .iload_n 2, 1), (66, .iload_n 3, 1), (67, .invokevirtual 121, 3), (70, .ireturn, 1), (71, .aload_n 0, 1), (72, .getfield 48, 3), (75, .iload_n 2, 1), (76, .iload_n 3, 1), (77, .bipush 10, 2), (79, .if_icmp .ne 86, 3), (82, .iconst 1, 1), (83, .goto 97, 3), (86, .iload_n 3, 1), (87, .bipush 11, 2), (89, .if_icmp .ne 96, 3), (92, .iconst 2, 1), (93, .goto 97, 3), (96, .iconst 3, 1), (97, .iastore, 1), (98, .iload_n 3, 1), (99, .bipush 10, 2), (101, .if_icmp .eq 116, 3), (104, .iload_n 3, 1), (105, .bipush 11, 2), (107, .if_icmp .eq 116, 3), (110, .iload_n 3, 1), (111, .bipush 12, 2), (113, .if_icmp .ne 120, 3), (116, .iconst 1, 1), (117, .goto 121, 3), (120, .iconst 0, 1), (121, .ireturn, 1), (122, .aload_n 0, 1), (123, .iload_n 2, 1), (124, .iload_n 3, 1), (125, .invokevirtual 122, 3), (128, .ireturn, 1), (129, .aload_n 0, 1), (130, .iload_n 2, 1), (131, .iload_n 3, 1), (132, .invokevirtual 123, 3), (135, .ireturn, 1), (136, .aload_n 0, 1), (137, .iload_n 2, 1), (138, .iload_n 3, 1), (139, .invokevirtual 124, 3), (142, .ireturn, 1), (143, .aload_n 0, 1), (144, .getfield 54, 3), (147, .iload_n 2, 1), (148, .iload_n 3, 1), (149, .bipush 28, 2), (151, .isub, 1), (152, .iastore, 1), (153, .iload_n 3, 1), (154, .bipush 28, 2), (156, .if_icmp .lt 169, 3), (159, .iload_n 3, 1), (160, .bipush 30, 2), (162, .if_icmp .gt 169, 3), (165, .iconst 1, 1), (166, .goto 170, 3), (169, .iconst 0, 1), (170, .ireturn, 1), (171, .aload_n 0, 1), (172, .getfield 54, 3), (175, .iload_n 2, 1), (176, .iload_n 3, 1), (177, .bipush 25, 2), (179, .isub, 1), (180, .iastore, 1), (181, .iload_n 3, 1), (182, .bipush 25, 2), (184, .if_icmp .lt 197, 3), (187, .iload_n 3, 1), (188, .bipush 27, 2), (190, .if_icmp .gt 197, 3), (193, .iconst 1, 1), (194, .goto 198, 3), (197, .iconst 0, 1), (198, .ireturn, 1), (199, .aload_n 0, 1), (200, .getfield 53, 3), (203, .iload_n 2, 1), (204, .iload_n 3, 1), (205, .bipush 36, 2), (207, .if_icmp .ne 215, 3), (210, .bipush 9, 2), (212, .goto 216, 3), (215, .iload_n 3, 1), (216, .iastore, 1), (217, .iload_n 3, 1), (218, .invokestatic 125, 3), (221, .ifCond .ne 240, 3), (224, .iload_n 3, 1), (225, .bipush 36, 2), (227, .if_icmp .ne 244, 3), (230, .aload_n 0, 1), (231, .iload_n 2, 1), (232, .iconst 4, 1), (233, .idiv, 1), (234, .invokevirtual 126, 3), (237, .ifCond .eq 244, 3), (240, .iconst 1, 1), (241, .goto 245, 3), (244, .iconst 0, 1), (245, .ireturn, 1), (246, .aload_n 0, 1), (247, .getfield 56, 3), (250, .iload_n 2, 1), (251, .iload_n 3, 1), (252, .iastore, 1), (253, .iload_n 3, 1), (254, .invokestatic 125, 3), (257, .ifCond .eq 264, 3), (260, .iconst 1, 1), (261, .goto 265, 3), (264, .iconst 0, 1), (265, .ireturn, 1), (266, .iload_n 3, 1), (267, .bipush 23, 2), (269, .if_icmp .eq 274, 3), (272, .iconst 2, 1), (273, .ireturn, 1), (274, .aload_n 0, 1), (275, .bipush 58, 2), (277, .iload_n 2, 1), (278, .invokevirtual 119, 3), (281, .aload_n 0, 1), (282, .bipush 24, 2), (284, .iconst 0, 1), (285, .invokevirtual 119, 3), (288, .iconst 1, 1), (289, .ireturn, 1), (290, .aload_n 0, 1), (291, .getfield 55, 3), (294, .iload_n 2, 1), (295, .iload_n 3, 1), (296, .bipush 17, 2), (298, .if_icmp .ne 305, 3), (301, .iconst 1, 1), (302, .goto 311, 3), (305, .iload_n 3, 1), (306, .bipush 31, 2), (308, .isub, 1), (309, .iconst 2, 1), (310, .iadd, 1), (311, .iastore, 1), (312, .aload_n 0, 1), (313, .bipush 61, 2), (315, .iload_n 2, 1), (316, .invokevirtual 119, 3), (319, .aload_n 0, 1), (320, .iload_n 3, 1), (321, .bipush 17, 2), (323, .if_icmp .ne 331, 3), (326, .bipush 59, 2), (328, .goto 333, 3), (331, .bipush 60, 2), (333, .iload_n 2, 1), (334, .invokevirtual 119, 3), (337, .iload_n 3, 1), (338, .bipush 17, 2), (340, .if_icmp .eq 350, 3), (343, .iload_n 3, 1), (344, .invokestatic 127, 3), (347, .ifCond .eq 354, 3), (350, .iconst 1, 1), (351, .goto 355, 3), (354, .iconst 0, 1), (355, .ireturn, 1), (356, .iload_n 3, 1), (357, .iload_n 1, 1), (358, .if_icmp .ne 365, 3), (361, .iconst 1, 1), (362, .goto 366, 3), (365, .iconst 0, 1), (366, .ireturn, 1)]
/-- ToldShieldsModel.takeField(II)I -/
def am_c107 : List (Nat × Instr × Nat) := [(0, .aload_n 0, 1), (1, .bipush 53, 2), (3, .iload_n 1, 1), (4, .invokevirtual 119, 3), (7, .iload_n 2, 1), (8, .invokestatic 125, 3), (11, .ifCond .eq 36, 3), (14, .aload_n 0, 1), (15, .getfield 49, 3), (18, .iconst 2, 1), (19, .iload_n 1, 1), (20, .imul, 1), (21, .iload_n 2, 1), (22, .iastore, 1), (23, .aload_n 0, 1), (24, .getfield 49, 3), (27, .iconst 2, 1), (28, .iload_n 1, 1), (29, .imul, 1), (30, .iconst 1, 1), (31, .iadd, 1), (32, .iload_n 2, 1), (33, .iastore, 1), (34, .iconst 1, 1), (35, .ireturn, 1), (36, .aload_n 0, 1), (37, .bipush 52, 2), (39, .iconst 2, 1), (40, .iload_n 1, 1), (41, .imul, 1), (42, .iconst 1, 1), (43, .iadd, 1), (44, .invokevirtual 119, 3), (47, .aload_n 0, 1), (48, .bipush 14, 2), (50, .iconst 0, 1), (51, .invokevirtual 119, 3), (54, .aload_n 0, 1), (55, .bipush 52, 2), (57, .iconst 2, 1), (58, .iload_n 1, 1), (59, .imul, 1), (60, .invokevirtual 119, 3), (63, .iload_n 2, 1), (64, .bipush 9, 2), (66, .if_icmp .ne 76, 3), (69, .aload_n 0, 1), (70, .bipush 51, 2), (72, .iload_n 1, 1), (73, .invokevirtual 119, 3), (76, .aload_n 0, 1), (77, .getfield 48, 3), (80, .iload_n 1, 1), (81, .iconst 4, 1), (82, .iastore, 1), (83, .iload_n 2, 1), (84, .bipush 9, 2), (86, .if_icmp .eq 95, 3), (89, .iload_n 2, 1), (90, .bipush 13, 2), (92, .if_icmp .ne 99, 3), (95, .iconst 1, 1), (96, .goto 100, 3), (99, .iconst 0, 1), (100, .ireturn, 1)]
/-- ToldShieldsModel.isTincture(I)Z -/
def am_c108 : List (Nat × Instr × Nat) := [(0, .iload_n 0, 1), (1, .ifCond .lt 14, 3), (4, .iload_n 0, 1), (5, .bipush 9, 2), (7, .if_icmp .ge 14, 3), (10, .iconst 1, 1), (11, .goto 15, 3), (14, .iconst 0, 1), (15, .ireturn, 1)]
/-- ToldShieldsModel.takePart(II)I -/
def am_c109 : List (Nat × Instr × Nat) := [(0, .aload_n 0, 1), (1, .getfield 49, 3), (4, .iload_n 1, 1), (5, .iload_n 2, 1), (6, .iastore, 1), (7, .iload_n 2, 1), (8, .bipush 15, 2), (10, .if_icmp .eq 26, 3), (13, .iload_n 2, 1), (14, .invokestatic 125, 3), (17, .ifCond .eq 24, 3), (20, .iconst 1, 1), (21, .goto 25, 3), (24, .iconst 0, 1), (25, .ireturn, 1), (26, .aload_n 0, 1), (27, .getfield 50, 3), (30, .iload_n 1, 1), (31, .iconst 2, 1), (32, .idiv, 1), (33, .iaload, 1), (34, .iconst 3, 1), (35, .if_icmp .ne 40, 3), (38, .iconst 0, 1), (39, .ireturn, 1), (40, .aload_n 0, 1), (41, .aload_n 0, 1), (42, .getfield 50, 3), (45, .iload_n 1, 1), (46, .iconst 2, 1), (47, .idiv, 1), (48, .iaload, 1), (49, .iconst 1, 1), (50, .iadd, 1), (51, .invokevirtual 118, 3), (54, .istore_n 3, 1), (55, .aload_n 0, 1), (56, .getfield 49, 3), (59, .iload_n 1, 1), (60, .bipush 100, 2), (62, .iload_n 3, 1), (63, .iadd, 1), (64, .iastore, 1), (65, .aload_n 0, 1), (66, .bipush 16, 2), (68, .iconst 0, 1), (69, .invokevirtual 119, 3), (72, .aload_n 0, 1), (73, .bipush 50, 2), (75, .iload_n 3, 1), (76, .invokevirtual 119, 3), (79, .iconst 1, 1), (80, .ireturn, 1)]
/-- ToldShieldsModel.takeItems(II)I -/
def am_c110 : List (Nat × Instr × Nat) := [(0, .iload_n 2, 1), (1, .bipush 17, 2), (3, .if_icmp .eq 15, 3), (6, .iload_n 2, 1), (7, .invokestatic 127, 3), (10, .ifCond .ne 15, 3), (13, .iconst 2, 1), (14, .ireturn, 1), (15, .aload_n 0, 1), (16, .getfield 51, 3), (19, .iload_n 1, 1), (20, .iaload, 1), (21, .iconst 4, 1), (22, .if_icmp .ne 27, 3), (25, .iconst 0, 1), (26, .ireturn, 1), (27, .iconst 4, 1), (28, .iload_n 1, 1), (29, .imul, 1), (30, .aload_n 0, 1), (31, .getfield 51, 3), (34, .iload_n 1, 1), (35, .iaload, 1), (36, .iadd, 1), (37, .istore_n 3, 1), (38, .aload_n 0, 1), (39, .getfield 51, 3), (42, .iload_n 1, 1), (43, .dup2, 1), (44, .iaload, 1), (45, .iconst 1, 1), (46, .iadd, 1), (47, .iastore, 1), (48, .aload_n 0, 1), (49, .getfield 52, 3), (52, .iload_n 3, 1), (53, .iconst 0, 1), (54, .iastore, 1), (55, .aload_n 0, 1), (56, .getfield 55, 3), (59, .iload_n 3, 1), (60, .iconst 0, 1), (61, .iastore, 1), (62, .aload_n 0, 1), (63, .bipush 53, 2), (65, .iload_n 1, 1), (66, .invokevirtual 119, 3), (69, .iload_n 2, 1), (70, .bipush 17, 2), (72, .if_icmp .ne 85, 3), (75, .aload_n 0, 1), (76, .bipush 54, 2), (78, .iload_n 3, 1), (79, .invokevirtual 119, 3), (82, .goto 111, 3), (85, .aload_n 0, 1), (86, .getfield 55, 3), (89, .iload_n 3, 1), (90, .iload_n 2, 1), (91, .bipush 31, 2), (93, .isub, 1), (94, .iconst 2, 1), (95, .iadd, 1), (96, .iastore, 1), (97, .aload_n 0, 1), (98, .bipush 56, 2), (100, .iload_n 3, 1), (101, .invokevirtual 119, 3), (104, .aload_n 0, 1), (105, .bipush 55, 2), (107, .iload_n 3, 1), (108, .invokevirtual 119, 3), (111, .iconst 1, 1), (112, .ireturn, 1)]
/-- ToldShieldsModel.isNumber(I)Z -/
def am_c111 : List (Nat × Instr × Nat) := [(0, .iload_n 0, 1), (1, .bipush 31, 2), (3, .if_icmp .lt 16, 3), (6, .iload_n 0, 1), (7, .bipush 35, 2), (9, .if_icmp .gt 16, 3), (12, .iconst 1, 1), (13, .goto 17, 3), (16, .iconst 0, 1), (17, .ireturn, 1)]
/-- ToldShieldsModel.takeBehindA(II)I -/
def am_c112 : List (Nat × Instr × Nat) := [(0, .iload_n 2, 1), (1, .bipush 25, 2), (3, .if_icmp .lt 38, 3), (6, .iload_n 2, 1), (7, .bipush 27, 2), (9, .if_icmp .gt 38, 3), (12, .aload_n 0, 1), (13, .getfield 54, 3), (16, .iload_n 1, 1), (17, .iload_n 2, 1), (18, .bipush 25, 2), (20, .isub, 1), (21, .iastore, 1), (22, .aload_n 0, 1), (23, .getfield 55, 3), (26, .iload_n 1, 1), (27, .iconst 1, 1), (28, .iastore, 1), (29, .aload_n 0, 1), (30, .bipush 56, 2), (32, .iload_n 1, 1), (33, .invokevirtual 119, 3), (36, .iconst 1, 1), (37, .ireturn, 1), (38, .iload_n 2, 1), (39, .bipush 18, 2), (41, .if_icmp .eq 56, 3), (44, .iload_n 2, 1), (45, .bipush 11, 2), (47, .if_icmp .eq 56, 3), (50, .iload_n 2, 1), (51, .bipush 10, 2), (53, .if_icmp .ne 60, 3), (56, .iconst 1, 1), (57, .goto 61, 3), (60, .iconst 0, 1), (61, .istore_n 3, 1), (62, .aload_n 0, 1), (63, .getfield 52, 3), (66, .iload_n 1, 1), (67, .iload_n 2, 1), (68, .iastore, 1), (69, .iload_n 3, 1), (70, .ifCond .eq 80, 3), (73, .aload_n 0, 1), (74, .bipush 57, 2), (76, .iload_n 1, 1), (77, .invokevirtual 119, 3), (80, .aload_n 0, 1), (81, .bipush 56, 2), (83, .iload_n 1, 1), (84, .invokevirtual 119, 3), (87, .iload_n 3, 1), (88, .ifCond .ne 109, 3), (91, .iload_n 2, 1), (92, .bipush 12, 2), (94, .if_icmp .eq 109, 3), (97, .iload_n 2, 1), (98, .bipush 19, 2), (100, .if_icmp .lt 113, 3), (103, .iload_n 2, 1), (104, .bipush 22, 2), (106, .if_icmp .gt 113, 3), (109, .iconst 1, 1), (110, .goto 114, 3), (113, .iconst 0, 1), (114, .ireturn, 1)]
/-- ToldShieldsModel.isTwofold(I)Z -/
def am_c113 : List (Nat × Instr × Nat) := [(0, .aload_n 0, 1), (1, .getfield 48, 3), (4, .iload_n 1, 1), (5, .iaload, 1), (6, .ifCond .le 41, 3), (9, .aload_n 0, 1), (10, .getfield 49, 3), (13, .iconst 2, 1), (14, .iload_n 1, 1), (15, .imul, 1), (16, .iaload, 1), (17, .bipush 100, 2), (19, .if_icmp .ge 41, 3), (22, .aload_n 0, 1), (23, .getfield 49, 3), (26, .iconst 2, 1), (27, .iload_n 1, 1), (28, .imul, 1), (29, .iconst 1, 1), (30, .iadd, 1), (31, .iaload, 1), (32, .bipush 100, 2), (34, .if_icmp .ge 41, 3), (37, .iconst 1, 1), (38, .goto 42, 3), (41, .iconst 0, 1), (42, .ireturn, 1)]
/-- ToldShieldsModel.paint(II)I -/
def am_c114 : List (Nat × Instr × Nat) := [(0, .iconst 0, 1), (1, .istore_n 3, 1), (2, .iload_n 1, 1), (3, .istore 4, 2), (5, .iload_n 2, 1), (6, .istore 5, 2), (8, .bipush 24, 2), (10, .istore 6, 2), (12, .bipush 24, 2), (14, .istore 7, 2), (16, .iconst 0, 1), (17, .istore 8, 2), (19, .iload 8, 2), (21, .iconst 4, 1), (22, .if_icmp .ge 310, 3), (25, .aload_n 0, 1), (26, .getfield 48, 3), (29, .iload_n 3, 1), (30, .iaload, 1), (31, .ifCond .eq 55, 3), (34, .aload_n 0, 1), (35, .aload_n 0, 1), (36, .getfield 48, 3), (39, .iload_n 3, 1), (40, .iaload, 1), (41, .iload 4, 2), (43, .iload 5, 2), (45, .iload 6, 2), (47, .iload 7, 2), (49, .invokevirtual 128, 3), (52, .ifCond .eq 59, 3), (55, .iconst 1, 1), (56, .goto 60, 3), (59, .iconst 0, 1), (60, .istore 9, 2), (62, .aload_n 0, 1), (63, .getfield 51, 3), (66, .iload_n 3, 1), (67, .iaload, 1), (68, .iconst 1, 1), (69, .isub, 1), (70, .istore 10, 2), (72, .iload 10, 2), (74, .ifCond .lt 113, 3), (77, .aload_n 0, 1), (78, .iconst 4, 1), (79, .iload_n 3, 1), (80, .imul, 1), (81, .iload 10, 2), (83, .iadd, 1), (84, .iload 9, 2), (86, .iload 4, 2), (88, .iload 5, 2), (90, .iload 6, 2), (92, .iload 7, 2), (94, .invokevirtual 129, 3), (97, .istore 11, 2), (99, .iload 11, 2), (101, .ifCond .lt 107, 3), (104, .iload 11, 2), (106, .ireturn, 1), (107, .iinc 10 (-1), 3), (110, .goto 72, 3), (113, .aload_n 0, 1), (114, .getfield 49, 3), (117, .iload 9, 2), (119, .ifCond .eq 128, 3), (122, .iconst 2, 1), (123, .iload_n 3, 1), (124, .imul, 1), (125, .goto 133, 3), (128, .iconst 2, 1), (129, .iload_n 3, 1), (130, .imul, 1), (131, .iconst 1, 1), (132, .iadd, 1), (133, .iaload, 1), (134, .istore 10, 2), (136, .iload 10, 2), (138, .bipush 100, 2), (140, .if_icmp .ge 146, 3), (143, .iload 10, 2), (145, .ireturn, 1), (146, .aload_n 0, 1), (147, .getfield 48, 3), (150, .iload_n 3, 1), (151, .iaload, 1), (152, .iconst 1, 1), (153, .if_icmp .eq 166, 3), (156, .aload_n 0, 1), (157, .getfield 48, 3), (160, .iload_n 3, 1), (161, .iaload, 1), (162, .iconst 4, 1), (163, .if_icmp .ne 222, 3), (166, .iload 4, 2), (168, .iload 6, 2), (170, .iconst 2, 1), (171, .idiv, 1), (172, .if_icmp .ge 179, 3), (175, .iconst 1, 1), (176, .goto 180, 3), (179, .iconst 0, 1), (180, .istore 11, 2), (182, .iload 11, 2), (184, .ifCond .eq 192, 3), (187, .iload 4, 2), (189, .goto 199, 3), (192, .iload 4, 2), (194, .iload 6, 2), (196, .iconst 2, 1), (197, .idiv, 1), (198, .isub, 1), (199, .istore 4, 2), (201, .iload 11, 2), (203, .ifCond .eq 213, 3), (206, .iload 6, 2), (208, .iconst 2, 1), (209, .idiv, 1), (210, .goto 220, 3), (213, .iload 6, 2), (215, .iload 6, 2), (217, .iconst 2, 1), (218, .idiv, 1), (219, .isub, 1), (220, .istore 6, 2), (222, .aload_n 0, 1), (223, .getfield 48, 3), (226, .iload_n 3, 1), (227, .iaload, 1), (228, .iconst 2, 1), (229, .if_icmp .eq 242, 3), (232, .aload_n 0, 1), (233, .getfield 48, 3), (236, .iload_n 3, 1), (237, .iaload, 1), (238, .iconst 4, 1), (239, .if_icmp .ne 298, 3), (242, .iload 5, 2), (244, .iload 7, 2), (246, .iconst 2, 1), (247, .idiv, 1), (248, .if_icmp .ge 255, 3), (251, .iconst 1, 1), (252, .goto 256, 3), (255, .iconst 0, 1), (256, .istore 11, 2), (258, .iload 11, 2), (260, .ifCond .eq 268, 3), (263, .iload 5, 2), (265, .goto 275, 3), (268, .iload 5, 2), (270, .iload 7, 2), (272, .iconst 2, 1), (273, .idiv, 1), (274, .isub, 1), (275, .istore 5, 2), (277, .iload 11, 2), (279, .ifCond .eq 289, 3), (282, .iload 7, 2), (284, .iconst 2, 1), (285, .idiv, 1), (286, .goto 296, 3), (289, .iload 7, 2), (291, .iload 7, 2), (293, .iconst 2, 1), (294, .idiv, 1), (295, .isub, 1), (296, .istore 7, 2), (298, .iload 10, 2), (300, .bipush 100, 2), (302, .isub, 1), (303, .istore_n 3, 1), (304, .iinc 8 1, 3), (307, .goto 19, 3), (310, .iconst (-1), 1), (311, .ireturn, 1)]
/-- ToldShieldsModel.isFirst(IIIII)Z -/
def am_c115 : List (Nat × Instr × Nat) := [(0, .iload_n 1, 1), (1, .tableswitch 73 1 3 #[28, 42, 56], 27), (28, .iload_n 2, 1), (29, .iload 4, 2), (31, .iconst 2, 1), (32, .idiv, 1), (33, .if_icmp .ge 40, 3), (36, .iconst 1, 1), (37, .goto 41, 3), (40, .iconst 0, 1), (41, .ireturn, 1), (42, .iload_n 3, 1), (43, .iload 5, 2), (45, .iconst 2, 1), (46, .idiv, 1), (47, .if_icmp .ge 54, 3), (50, .iconst 1, 1), (51, .goto 55, 3), (54, .iconst 0, 1), (55, .ireturn, 1), (56, .iload_n 2, 1), (57, .iload 5, 2), (59, .imul, 1), (60, .iload_n 3, 1), (61, .iload 4, 2), (63, .imul, 1), (64, .if_icmp .lt 71, 3), (67, .iconst 1, 1), (68, .goto 72, 3), (71, .iconst 0, 1), (72, .ireturn, 1), (73, .iload_n 2, 1), (74, .iload 4, 2), (76, .iconst 2, 1), (77, .idiv, 1), (78, .if_icmp .ge 85, 3), (81, .iconst 1, 1), (82, .goto 86, 3), (85, .iconst 0, 1), (86, .iload_n 3, 1), (87, .iload 5, 2), (89, .iconst 2, 1), (90, .idiv, 1), (91, .if_icmp .ge 98, 3), (94, .iconst 1, 1), (95, .goto 99, 3), (98, .iconst 0, 1), (99, .if_icmp .ne 106, 3), (102, .iconst 1, 1), (103, .goto 107, 3), (106, .iconst 0, 1), (107, .ireturn, 1)]
/-- ToldShieldsModel.given(IZIIII)I -/
def am_c116 : List (Nat × Instr × Nat) := [(0, .iload_n 1, 1), (1, .iconst 4, 1), (2, .idiv, 1), (3, .istore 7, 2), (5, .aload_n 0, 1), (6, .getfield 53, 3), (9, .iload_n 1, 1), (10, .iaload, 1), (11, .bipush 9, 2), (13, .if_icmp .ne 41, 3), (16, .aload_n 0, 1), (17, .getfield 49, 3), (20, .iload_n 2, 1), (21, .ifCond .eq 33, 3), (24, .iconst 2, 1), (25, .iload 7, 2), (27, .imul, 1), (28, .iconst 1, 1), (29, .iadd, 1), (30, .goto 37, 3), (33, .iconst 2, 1), (34, .iload 7, 2), (36, .imul, 1), (37, .iaload, 1), (38, .goto 47, 3), (41, .aload_n 0, 1), (42, .getfield 53, 3), (45, .iload_n 1, 1), (46, .iaload, 1), (47, .istore 8, 2), (49, .aload_n 0, 1), (50, .getfield 52, 3), (53, .iload_n 1, 1), (54, .iaload, 1), (55, .ifCond .ne 90, 3), (58, .aload_n 0, 1), (59, .getfield 54, 3), (62, .iload_n 1, 1), (63, .iaload, 1), (64, .aload_n 0, 1), (65, .getfield 55, 3), (68, .iload_n 1, 1), (69, .iaload, 1), (70, .iload_n 3, 1), (71, .iload 4, 2), (73, .iload 5, 2), (75, .iload 6, 2), (77, .invokestatic 130, 3), (80, .ifCond .eq 88, 3), (83, .iload 8, 2), (85, .goto 89, 3), (88, .iconst (-1), 1), (89, .ireturn, 1), (90, .aload_n 0, 1), (91, .iload_n 1, 1), (92, .iload_n 3, 1), (93, .iload 4, 2), (95, .iload 5, 2), (97, .iload 6, 2), (99, .invokevirtual 131, 3), (102, .ifCond .eq 114, 3), (105, .aload_n 0, 1), (106, .getfield 56, 3), (109, .iload_n 1, 1), (110, .iaload, 1), (111, .goto 139, 3), (114, .aload_n 0, 1), (115, .getfield 52, 3), (118, .iload_n 1, 1), (119, .iaload, 1), (120, .iload_n 3, 1), (121, .iload 4, 2), (123, .iload 5, 2), (125, .iload 6, 2), (127, .invokestatic 132, 3), (130, .ifCond .eq 138, 3), (133, .iload 8, 2), (135, .goto 139, 3), (138, .iconst (-1), 1), (139, .ireturn, 1)]
/-- ToldShieldsModel.isCharged(IIIIII)Z -/
def am_c117 : List (Nat × Instr × Nat) := [(0, .iload_n 1, 1), (1, .iconst 3, 1), (2, .if_icmp .ge 9, 3), (5, .iconst 1, 1), (6, .goto 19, 3), (9, .iload_n 1, 1), (10, .iconst 5, 1), (11, .if_icmp .ge 18, 3), (14, .iconst 2, 1), (15, .goto 19, 3), (18, .iconst 3, 1), (19, .istore 6, 2), (21, .iload_n 3, 1), (22, .iload 5, 2), (24, .iload 6, 2), (26, .invokestatic 133, 3), (29, .istore 7, 2), (31, .iload_n 0, 1), (32, .iload_n 1, 1), (33, .iload 7, 2), (35, .invokestatic 134, 3), (38, .iload 7, 2), (40, .iload 6, 2), (42, .iload_n 2, 1), (43, .iload_n 3, 1), (44, .iload 4, 2), (46, .iload 5, 2), (48, .invokestatic 135, 3), (51, .ireturn, 1)]
/-- ToldShieldsModel.stripe(III)I -/
def am_c118 : List (Nat × Instr × Nat) := [(0, .iconst 0, 1), (1, .istore_n 3, 1), (2, .iload_n 0, 1), (3, .iload_n 3, 1), (4, .iconst 1, 1), (5, .iadd, 1), (6, .iload_n 1, 1), (7, .imul, 1), (8, .iload_n 2, 1), (9, .idiv, 1), (10, .if_icmp .lt 19, 3), (13, .iinc 3 1, 3), (16, .goto 2, 3), (19, .iload_n 3, 1), (20, .ireturn, 1)]
/-- ToldShieldsModel.inRow(II)I -/
def am_c119 : List (Nat × Instr × Nat) := [(0, .iload_n 0, 1), (1, .tableswitch 63 1 5 #[36, 38, 40, 50, 52], 35), (36, .iconst 1, 1), (37, .ireturn, 1), (38, .iconst 2, 1), (39, .ireturn, 1), (40, .iload_n 1, 1), (41, .ifCond .ne 48, 3), (44, .iconst 2, 1), (45, .goto 49, 3), (48, .iconst 1, 1), (49, .ireturn, 1), (50, .iconst 2, 1), (51, .ireturn, 1), (52, .iload_n 1, 1), (53, .iconst 2, 1), (54, .if_icmp .ge 61, 3), (57, .iconst 2, 1), (58, .goto 62, 3), (61, .iconst 1, 1), (62, .ireturn, 1), (63, .iconst 3, 1), (64, .iload_n 1, 1), (65, .isub, 1), (66, .ireturn, 1)]
/-- ToldShieldsModel.isInRow(IIIIIIII)Z -/
def am_c120 : List (Nat × Instr × Nat) := [(0, .iload_n 2, 1), (1, .iload 7, 2), (3, .imul, 1), (4, .iload_n 3, 1), (5, .idiv, 1), (6, .istore 8, 2), (8, .iload 4, 2), (10, .iload 6, 2), (12, .iload_n 1, 1), (13, .invokestatic 133, 3), (16, .istore 9, 2), (18, .iload 9, 2), (20, .iload 6, 2), (22, .imul, 1), (23, .iload_n 1, 1), (24, .idiv, 1), (25, .istore 10, 2), (27, .iload_n 0, 1), (28, .iload 4, 2), (30, .iload 10, 2), (32, .isub, 1), (33, .iload 5, 2), (35, .iload 8, 2), (37, .isub, 1), (38, .iload 9, 2), (40, .iconst 1, 1), (41, .iadd, 1), (42, .iload 6, 2), (44, .imul, 1), (45, .iload_n 1, 1), (46, .idiv, 1), (47, .iload 10, 2), (49, .isub, 1), (50, .iload_n 2, 1), (51, .iconst 1, 1), (52, .iadd, 1), (53, .iload 7, 2), (55, .imul, 1), (56, .iload_n 3, 1), (57, .idiv, 1), (58, .iload 8, 2), (60, .isub, 1), (61, .invokestatic 136, 3), (64, .ireturn, 1)]
/-- ToldShieldsModel.isCharge(IIIII)Z -/
def am_c121 : List (Nat × Instr × Nat) := [(0, .iconst 2, 1), (1, .iload_n 1, 1), (2, .imul, 1), (3, .iconst 1, 1), (4, .iadd, 1), (5, .iload_n 3, 1), (6, .isub, 1), (7, .invokestatic 137, 3), (10, .istore 5, 2), (12, .iconst 2, 1), (13, .iload_n 2, 1), (14, .imul, 1), (15, .iconst 1, 1), (16, .iadd, 1), (17, .iload 4, 2), (19, .isub, 1), (20, .invokestatic 137, 3), (23, .istore 6, 2), (25, .iload_n 0, 1), (26, .ifCond .ne 74, 3), (29, .bipush 16, 2), (31, .iload 5, 2), (33, .iload 5, 2), (35, .imul, 1), (36, .iload 4, 2), (38, .imul, 1), (39, .iload 4, 2), (41, .imul, 1), (42, .iload 6, 2), (44, .iload 6, 2), (46, .imul, 1), (47, .iload_n 3, 1), (48, .imul, 1), (49, .iload_n 3, 1), (50, .imul, 1), (51, .iadd, 1), (52, .imul, 1), (53, .bipush 9, 2), (55, .iload_n 3, 1), (56, .imul, 1), (57, .iload_n 3, 1), (58, .imul, 1), (59, .iload 4, 2), (61, .imul, 1), (62, .iload 4, 2), (64, .imul, 1), (65, .if_icmp .gt 72, 3), (68, .iconst 1, 1), (69, .goto 73, 3), (72, .iconst 0, 1), (73, .ireturn, 1), (74, .iload_n 0, 1), (75, .iconst 1, 1), (76, .if_icmp .ne 106, 3), (79, .iconst 2, 1), (80, .iload 5, 2), (82, .imul, 1), (83, .iload_n 3, 1), (84, .if_icmp .gt 102, 3), (87, .iconst 4, 1), (88, .iload 6, 2), (90, .imul, 1), (91, .iconst 3, 1), (92, .iload 4, 2), (94, .imul, 1), (95, .if_icmp .gt 102, 3), (98, .iconst 1, 1), (99, .goto 132, 3), (102, .iconst 0, 1), (103, .goto 132, 3), (106, .iconst 4, 1), (107, .iload 5, 2), (109, .iload 4, 2), (111, .imul, 1), (112, .iload 6, 2), (114, .iload_n 3, 1), (115, .imul, 1), (116, .iadd, 1), (117, .imul, 1), (118, .iconst 3, 1), (119, .iload_n 3, 1), (120, .imul, 1), (121, .iload 4, 2), (123, .imul, 1), (124, .if_icmp .gt 131, 3), (127, .iconst 1, 1), (128, .goto 132, 3), (131, .iconst 0, 1), (132, .ireturn, 1)]
/-- ToldShieldsModel.size(I)I -/
def am_c122 : List (Nat × Instr × Nat) := [(0, .iload_n 0, 1), (1, .ifCond .ge 9, 3), (4, .iload_n 0, 1), (5, .ineg, 1), (6, .goto 10, 3), (9, .iload_n 0, 1), (10, .ireturn, 1)]
/-- ToldShieldsModel.isOnOrdinary(IIIII)Z -/
def am_c123 : List (Nat × Instr × Nat) := [(0, .aload_n 0, 1), (1, .getfield 55, 3), (4, .iload_n 1, 1), (5, .iaload, 1), (6, .ifCond .eq 27, 3), (9, .aload_n 0, 1), (10, .getfield 52, 3), (13, .iload_n 1, 1), (14, .iaload, 1), (15, .iload_n 2, 1), (16, .iload_n 3, 1), (17, .iload 4, 2), (19, .iload 5, 2), (21, .invokestatic 132, 3), (24, .ifCond .ne 29, 3), (27, .iconst 0, 1), (28, .ireturn, 1), (29, .aload_n 0, 1), (30, .getfield 55, 3), (33, .iload_n 1, 1), (34, .iaload, 1), (35, .istore 6, 2), (37, .aload_n 0, 1), (38, .getfield 52, 3), (41, .iload_n 1, 1), (42, .iaload, 1), (43, .bipush 18, 2), (45, .if_icmp .ne 70, 3), (48, .aload_n 0, 1), (49, .getfield 54, 3), (52, .iload_n 1, 1), (53, .iaload, 1), (54, .iload 6, 2), (56, .iconst 0, 1), (57, .iconst 1, 1), (58, .iload_n 2, 1), (59, .iload_n 3, 1), (60, .iload 4, 2), (62, .iload 5, 2), (64, .iconst 3, 1), (65, .idiv, 1), (66, .invokestatic 135, 3), (69, .ireturn, 1), (70, .aload_n 0, 1), (71, .getfield 52, 3), (74, .iload_n 1, 1), (75, .iaload, 1), (76, .bipush 11, 2), (78, .if_icmp .ne 116, 3), (81, .aload_n 0, 1), (82, .getfield 54, 3), (85, .iload_n 1, 1), (86, .iaload, 1), (87, .iload 6, 2), (89, .iconst 0, 1), (90, .iconst 1, 1), (91, .iload_n 2, 1), (92, .iload_n 3, 1), (93, .iload 5, 2), (95, .iconst 3, 1), (96, .idiv, 1), (97, .isub, 1), (98, .iload 4, 2), (100, .iload 5, 2), (102, .iload 5, 2), (104, .iconst 3, 1), (105, .idiv, 1), (106, .isub, 1), (107, .iload 5, 2), (109, .iconst 3, 1), (110, .idiv, 1), (111, .isub, 1), (112, .invokestatic 135, 3), (115, .ireturn, 1), (116, .iload 4, 2), (118, .iload 4, 2), (120, .iconst 3, 1), (121, .idiv, 1), (122, .isub, 1), (123, .iload 4, 2), (125, .iconst 3, 1), (126, .idiv, 1), (127, .isub, 1), (128, .istore 7, 2), (130, .aload_n 0, 1), (131, .getfield 54, 3), (134, .iload_n 1, 1), (135, .iaload, 1), (136, .iconst 1, 1), (137, .iload_n 3, 1), (138, .iload 5, 2), (140, .iload 6, 2), (142, .invokestatic 133, 3), (145, .iload 6, 2), (147, .iload_n 2, 1), (148, .iload 4, 2), (150, .iconst 3, 1), (151, .idiv, 1), (152, .isub, 1), (153, .iload_n 3, 1), (154, .iload 7, 2), (156, .iload 5, 2), (158, .invokestatic 135, 3), (161, .ireturn, 1)]
/-- ToldShieldsModel.isOrdinary(IIIII)Z -/
def am_c124 : List (Nat × Instr × Nat) := [(0, .iload_n 2, 1), (1, .iload 4, 2), (3, .iconst 3, 1), (4, .idiv, 1), (5, .if_icmp .lt 23, 3), (8, .iload_n 2, 1), (9, .iload 4, 2), (11, .iload 4, 2), (13, .iconst 3, 1), (14, .idiv, 1), (15, .isub, 1), (16, .if_icmp .ge 23, 3), (19, .iconst 1, 1), (20, .goto 24, 3), (23, .iconst 0, 1), (24, .istore 5, 2), (26, .iload_n 1, 1), (27, .iload_n 3, 1), (28, .iconst 3, 1), (29, .idiv, 1), (30, .if_icmp .lt 46, 3), (33, .iload_n 1, 1), (34, .iload_n 3, 1), (35, .iload_n 3, 1), (36, .iconst 3, 1), (37, .idiv, 1), (38, .isub, 1), (39, .if_icmp .ge 46, 3), (42, .iconst 1, 1), (43, .goto 47, 3), (46, .iconst 0, 1), (47, .istore 6, 2), (49, .iload_n 0, 1), (50, .tableswitch 223 10 21 #[129, 126, 132, 223, 223, 223, 223, 223, 112, 141, 157, 189], 62), (112, .iload_n 2, 1), (113, .iload 4, 2), (115, .iconst 3, 1), (116, .idiv, 1), (117, .if_icmp .ge 124, 3), (120, .iconst 1, 1), (121, .goto 125, 3), (124, .iconst 0, 1), (125, .ireturn, 1), (126, .iload 5, 2), (128, .ireturn, 1), (129, .iload 6, 2), (131, .ireturn, 1), (132, .iload_n 1, 1), (133, .iload_n 2, 1), (134, .iload_n 3, 1), (135, .iload 4, 2), (137, .invokestatic 138, 3), (140, .ireturn, 1), (141, .iload 5, 2), (143, .ifCond .ne 151, 3), (146, .iload 6, 2), (148, .ifCond .eq 155, 3), (151, .iconst 1, 1), (152, .goto 156, 3), (155, .iconst 0, 1), (156, .ireturn, 1), (157, .iload_n 1, 1), (158, .iload_n 2, 1), (159, .iload_n 3, 1), (160, .iload 4, 2), (162, .invokestatic 138, 3), (165, .ifCond .ne 183, 3), (168, .iload_n 3, 1), (169, .iconst 1, 1), (170, .isub, 1), (171, .iload_n 1, 1), (172, .isub, 1), (173, .iload_n 2, 1), (174, .iload_n 3, 1), (175, .iload 4, 2), (177, .invokestatic 138, 3), (180, .ifCond .eq 187, 3), (183, .iconst 1, 1), (184, .goto 188, 3), (187, .iconst 0, 1), (188, .ireturn, 1), (189, .iconst 2, 1), (190, .iload_n 2, 1), (191, .imul, 1), (192, .iload_n 3, 1), (193, .imul, 1), (194, .iconst 2, 1), (195, .iload_n 1, 1), (196, .imul, 1), (197, .iconst 1, 1), (198, .iadd, 1), (199, .iload_n 3, 1), (200, .isub, 1), (201, .invokestatic 137, 3), (204, .iload 4, 2), (206, .imul, 1), (207, .isub, 1), (208, .iload_n 3, 1), (209, .iload 4, 2), (211, .imul, 1), (212, .iconst 2, 1), (213, .idiv, 1), (214, .isub, 1), (215, .iload_n 3, 1), (216, .iload 4, 2), (218, .imul, 1), (219, .invokestatic 139, 3), (222, .ireturn, 1), (223, .iload_n 1, 1), (224, .iload_n 3, 1), (225, .bipush 8, 2), (227, .idiv, 1), (228, .iconst 1, 1), (229, .iadd, 1), (230, .if_icmp .lt 270, 3), (233, .iload_n 1, 1), (234, .iload_n 3, 1), (235, .iload_n 3, 1), (236, .bipush 8, 2), (238, .idiv, 1), (239, .isub, 1), (240, .iconst 1, 1), (241, .isub, 1), (242, .if_icmp .ge 270, 3), (245, .iload_n 2, 1), (246, .iload 4, 2), (248, .bipush 8, 2), (250, .idiv, 1), (251, .iconst 1, 1), (252, .iadd, 1), (253, .if_icmp .lt 270, 3), (256, .iload_n 2, 1), (257, .iload 4, 2), (259, .iload 4, 2), (261, .bipush 8, 2), (263, .idiv, 1), (264, .isub, 1), (265, .iconst 1, 1), (266, .isub, 1), (267, .if_icmp .lt 274, 3), (270, .iconst 1, 1), (271, .goto 275, 3), (274, .iconst 0, 1), (275, .ireturn, 1)]
/-- ToldShieldsModel.isBend(IIII)Z -/
def am_c125 : List (Nat × Instr × Nat) := [(0, .iconst 3, 1), (1, .iload_n 0, 1), (2, .iload_n 3, 1), (3, .imul, 1), (4, .iload_n 1, 1), (5, .iload_n 2, 1), (6, .imul, 1), (7, .isub, 1), (8, .invokestatic 137, 3), (11, .imul, 1), (12, .iload_n 2, 1), (13, .iload_n 3, 1), (14, .imul, 1), (15, .iconst 2, 1), (16, .idiv, 1), (17, .if_icmp .gt 24, 3), (20, .iconst 1, 1), (21, .goto 25, 3), (24, .iconst 0, 1), (25, .ireturn, 1)]
/-- ToldShieldsModel.isChevron(II)Z -/
def am_c126 : List (Nat × Instr × Nat) := [(0, .iload_n 0, 1), (1, .ifCond .lt 13, 3), (4, .iload_n 0, 1), (5, .iload_n 1, 1), (6, .if_icmp .ge 13, 3), (9, .iconst 1, 1), (10, .goto 14, 3), (13, .iconst 0, 1), (14, .ireturn, 1)]
/-- ToldShieldsModel.countAll(I)V -/
def am_c127 : List (Nat × Instr × Nat) := [(0, .iconst 0, 1), (1, .istore_n 2, 1), (2, .iconst 0, 1), (3, .istore_n 3, 1), (4, .iconst 0, 1), (5, .istore 4, 2), (7, .iconst 0, 1), (8, .istore 5, 2), (10, .iload 5, 2), (12, .aload_n 0, 1), (13, .getfield 47, 3), (16, .if_icmp .ge 97, 3), (19, .iload_n 2, 1), (20, .aload_n 0, 1), (21, .getfield 51, 3), (24, .iload 5, 2), (26, .iaload, 1), (27, .iadd, 1), (28, .istore_n 2, 1), (29, .aload_n 0, 1), (30, .getfield 50, 3), (33, .iload 5, 2), (35, .iaload, 1), (36, .iload 4, 2), (38, .if_icmp .le 51, 3), (41, .aload_n 0, 1), (42, .getfield 50, 3), (45, .iload 5, 2), (47, .iaload, 1), (48, .goto 53, 3), (51, .iload 4, 2), (53, .istore 4, 2), (55, .iconst 0, 1), (56, .istore 6, 2), (58, .iload 6, 2), (60, .aload_n 0, 1), (61, .getfield 51, 3), (64, .iload 5, 2), (66, .iaload, 1), (67, .if_icmp .ge 91, 3), (70, .iload_n 3, 1), (71, .aload_n 0, 1), (72, .getfield 55, 3), (75, .iconst 4, 1), (76, .iload 5, 2), (78, .imul, 1), (79, .iload 6, 2), (81, .iadd, 1), (82, .iaload, 1), (83, .iadd, 1), (84, .istore_n 3, 1), (85, .iinc 6 1, 3), (88, .goto 58, 3), (91, .iinc 5 1, 3), (94, .goto 10, 3), (97, .aload_n 0, 1), (98, .getfield 41, 3), (101, .iconst 4, 1), (102, .iload_n 1, 1), (103, .imul, 1), (104, .aload_n 0, 1), (105, .getfield 47, 3), (108, .iastore, 1), (109, .aload_n 0, 1), (110, .getfield 41, 3), (113, .iconst 4, 1), (114, .iload_n 1, 1), (115, .imul, 1), (116, .iconst 1, 1), (117, .iadd, 1), (118, .iload_n 2, 1), (119, .iastore, 1), (120, .aload_n 0, 1), (121, .getfield 41, 3), (124, .iconst 4, 1), (125, .iload_n 1, 1), (126, .imul, 1), (127, .iconst 2, 1), (128, .iadd, 1), (129, .iload_n 3, 1), (130, .iastore, 1), (131, .aload_n 0, 1), (132, .getfield 41, 3), (135, .iconst 4, 1), (136, .iload_n 1, 1), (137, .imul, 1), (138, .iconst 3, 1), (139, .iadd, 1), (140, .iload 4, 2), (142, .iastore, 1), (143, .return_, 1)]
/-- ToldShieldsModel.judge(I)V -/
def am_c128 : List (Nat × Instr × Nat) := [(0, .aload_n 0, 1), (1, .getfield 40, 3), (4, .iload_n 1, 1), (5, .iconst 0, 1), (6, .iastore, 1), (7, .iconst 1, 1), (8, .istore_n 2, 1), (9, .aload_n 0, 1), (10, .iconst 0, 1), (11, .putfield 44, 3), (14, .aload_n 0, 1), (15, .iconst 0, 1), (16, .iconst 0, 1), (17, .invokevirtual 119, 3), (20, .iconst 0, 1), (21, .istore_n 3, 1), (22, .iconst 0, 1), (23, .istore 4, 2), (25, .iconst 0, 1), (26, .istore 5, 2), (28, .iload 5, 2), (30, .aload_n 0, 1), (31, .getfield 43, 3), (34, .if_icmp .ge 275, 3), (37, .aload_n 0, 1), (38, .getfield 45, 3), (41, .aload_n 0, 1), (42, .getfield 44, 3), (45, .iconst 1, 1), (46, .isub, 1), (47, .iaload, 1), (48, .istore 6, 2), (50, .aload_n 0, 1), (51, .getfield 46, 3), (54, .aload_n 0, 1), (55, .getfield 44, 3), (58, .iconst 1, 1), (59, .isub, 1), (60, .iaload, 1), (61, .istore 7, 2), (63, .aload_n 0, 1), (64, .getfield 42, 3), (67, .iload 5, 2), (69, .iaload, 1), (70, .istore 8, 2), (72, .iload 8, 2), (74, .bipush 15, 2), (76, .if_icmp .ne 93, 3), (79, .aload_n 0, 1), (80, .iload_n 2, 1), (81, .iconst 0, 1), (82, .invokevirtual 119, 3), (85, .iinc 2 1, 3), (88, .iconst 0, 1), (89, .istore_n 3, 1), (90, .goto 269, 3), (93, .iload 8, 2), (95, .bipush 16, 2), (97, .if_icmp .ne 115, 3), (100, .aload_n 0, 1), (101, .dup, 1), (102, .getfield 44, 3), (105, .iconst 1, 1), (106, .isub, 1), (107, .putfield 44, 3), (110, .iconst 0, 1), (111, .istore_n 3, 1), (112, .goto 269, 3), (115, .iload 8, 2), (117, .bipush 23, 2), (119, .if_icmp .ne 128, 3), (122, .iconst 1, 1), (123, .istore 4, 2), (125, .goto 269, 3), (128, .iload 8, 2), (130, .bipush 17, 2), (132, .if_icmp .eq 143, 3), (135, .iload 8, 2), (137, .invokestatic 127, 3), (140, .ifCond .eq 173, 3), (143, .iconst 1, 1), (144, .istore_n 3, 1), (145, .aload_n 0, 1), (146, .getfield 46, 3), (149, .aload_n 0, 1), (150, .getfield 44, 3), (153, .iconst 1, 1), (154, .isub, 1), (155, .iload 4, 2), (157, .ifCond .eq 165, 3), (160, .iload 7, 2), (162, .goto 169, 3), (165, .iload 7, 2), (167, .iconst 1, 1), (168, .iadd, 1), (169, .iastore, 1), (170, .goto 269, 3), (173, .iload_n 3, 1), (174, .ifCond .eq 269, 3), (177, .iload 8, 2), (179, .invokestatic 125, 3), (182, .ifCond .ne 192, 3), (185, .iload 8, 2), (187, .bipush 36, 2), (189, .if_icmp .ne 269, 3), (192, .iconst 4, 1), (193, .iload 6, 2), (195, .imul, 1), (196, .iload 7, 2), (198, .iadd, 1), (199, .iconst 1, 1), (200, .isub, 1), (201, .istore 9, 2), (203, .aload_n 0, 1), (204, .iload 8, 2), (206, .iload 4, 2), (208, .ifCond .eq 224, 3), (211, .aload_n 0, 1), (212, .getfield 53, 3), (215, .iload 9, 2), (217, .iaload, 1), (218, .invokestatic 140, 3), (221, .goto 230, 3), (224, .aload_n 0, 1), (225, .iload 6, 2), (227, .invokevirtual 141, 3), (230, .invokevirtual 142, 3), (233, .ifCond .eq 264, 3), (236, .aload_n 0, 1), (237, .getfield 39, 3), (240, .bipush 40, 2), (242, .iload_n 1, 1), (243, .imul, 1), (244, .aload_n 0, 1), (245, .getfield 40, 3), (248, .iload_n 1, 1), (249, .iaload, 1), (250, .iadd, 1), (251, .iload 5, 2), (253, .iastore, 1), (254, .aload_n 0, 1), (255, .getfield 40, 3), (258, .iload_n 1, 1), (259, .dup2, 1), (260, .iaload, 1), (261, .iconst 1, 1), (262, .iadd, 1), (263, .iastore, 1), (264, .iconst 0, 1), (265, .istore_n 3, 1), (266, .iconst 0, 1), (267, .istore 4, 2), (269, .iinc 5 1, 3), (272, .goto 28, 3), (275, .return_, 1)]
/-- ToldShieldsModel.classOf(I)I -/
def am_c129 : List (Nat × Instr × Nat) := [(0, .iload_n 0, 1), (1, .ifCond .lt 10, 3), (4, .iload_n 0, 1), (5, .bipush 6, 2), (7, .if_icmp .le 14, 3), (10, .iconst 0, 1), (11, .goto 24, 3), (14, .iload_n 0, 1), (15, .iconst 2, 1), (16, .if_icmp .ge 23, 3), (19, .iconst 1, 1), (20, .goto 24, 3), (23, .iconst 2, 1), (24, .ireturn, 1)]
/-- ToldShieldsModel.ground(I)I -/
def am_c130 : List (Nat × Instr × Nat) := [(0, .aload_n 0, 1), (1, .getfield 49, 3), (4, .iconst 2, 1), (5, .iload_n 1, 1), (6, .imul, 1), (7, .iaload, 1), (8, .invokestatic 140, 3), (11, .istore_n 2, 1), (12, .iload_n 2, 1), (13, .aload_n 0, 1), (14, .getfield 49, 3), (17, .iconst 2, 1), (18, .iload_n 1, 1), (19, .imul, 1), (20, .iconst 1, 1), (21, .iadd, 1), (22, .iaload, 1), (23, .invokestatic 140, 3), (26, .if_icmp .ne 33, 3), (29, .iload_n 2, 1), (30, .goto 34, 3), (33, .iconst 0, 1), (34, .ireturn, 1)]
/-- ToldShieldsModel.isBroken(II)Z -/
def am_c131 : List (Nat × Instr × Nat) := [(0, .iload_n 1, 1), (1, .invokestatic 140, 3), (4, .ifCond .le 19, 3), (7, .iload_n 1, 1), (8, .invokestatic 140, 3), (11, .iload_n 2, 1), (12, .if_icmp .ne 19, 3), (15, .iconst 1, 1), (16, .goto 20, 3), (19, .iconst 0, 1), (20, .ireturn, 1)]
/-- ToldShieldsModel.cell(III)I -/
def am_c132 : List (Nat × Instr × Nat) := [(0, .aload_n 0, 1), (1, .aload_n 0, 1), (2, .iload_n 1, 1), (3, .iload_n 2, 1), (4, .ifCond .lt 27, 3), (7, .iload_n 2, 1), (8, .bipush 24, 2), (10, .if_icmp .ge 27, 3), (13, .iload_n 3, 1), (14, .ifCond .lt 27, 3), (17, .iload_n 3, 1), (18, .bipush 24, 2), (20, .if_icmp .ge 27, 3), (23, .iconst 1, 1), (24, .goto 28, 3), (27, .iconst 0, 1), (28, .invokevirtual 143, 3), (31, .invokevirtual 110, 3), (34, .ifCond .eq 39, 3), (37, .iconst 0, 1), (38, .ireturn, 1), (39, .aload_n 0, 1), (40, .getfield 38, 3), (43, .sipush 576, 3), (46, .iload_n 1, 1), (47, .imul, 1), (48, .bipush 24, 2), (50, .iload_n 3, 1), (51, .imul, 1), (52, .iadd, 1), (53, .iload_n 2, 1), (54, .iadd, 1), (55, .iaload, 1), (56, .ireturn, 1)]
/-- ToldShieldsModel.wrong(IZ)I -/
def am_c133 : List (Nat × Instr × Nat) := [(0, .iload_n 1, 1), (1, .ifCond .lt 13, 3), (4, .iload_n 1, 1), (5, .iconst 2, 1), (6, .if_icmp .gt 13, 3), (9, .iload_n 2, 1), (10, .ifCond .ne 17, 3), (13, .iconst 1, 1), (14, .goto 31, 3), (17, .aload_n 0, 1), (18, .getfield 37, 3), (21, .iload_n 1, 1), (22, .iaload, 1), (23, .ifCond .ne 30, 3), (26, .iconst 2, 1), (27, .goto 31, 3), (30, .iconst 0, 1), (31, .ireturn, 1)]
/-- ToldShieldsModel.row(III)I -/
def am_c134 : List (Nat × Instr × Nat) := [(0, .aload_n 0, 1), (1, .aload_n 0, 1), (2, .iload_n 1, 1), (3, .iload_n 2, 1), (4, .ifCond .lt 17, 3), (7, .iload_n 2, 1), (8, .bipush 24, 2), (10, .if_icmp .ge 17, 3), (13, .iconst 1, 1), (14, .goto 18, 3), (17, .iconst 0, 1), (18, .invokevirtual 143, 3), (21, .invokevirtual 110, 3), (24, .ifCond .eq 29, 3), (27, .iconst 0, 1), (28, .ireturn, 1), (29, .iconst 0, 1), (30, .istore 4, 2), (32, .iconst 0, 1), (33, .istore 5, 2), (35, .iload 5, 2), (37, .bipush 24, 2), (39, .if_icmp .ge 84, 3), (42, .aload_n 0, 1), (43, .getfield 38, 3), (46, .sipush 576, 3), (49, .iload_n 1, 1), (50, .imul, 1), (51, .bipush 24, 2), (53, .iload_n 2, 1), (54, .imul, 1), (55, .iadd, 1), (56, .iload 5, 2), (58, .iadd, 1), (59, .iaload, 1), (60, .iload_n 3, 1), (61, .if_icmp .ne 74, 3), (64, .iload 4, 2), (66, .iconst 1, 1), (67, .iload 5, 2), (69, .ishl, 1), (70, .ior, 1), (71, .goto 76, 3), (74, .iload 4, 2), (76, .istore 4, 2), (78, .iinc 5 1, 3), (81, .goto 35, 3), (84, .iload 4, 2), (86, .ireturn, 1)]
/-- ToldShieldsModel.cells(II)I -/
def am_c135 : List (Nat × Instr × Nat) := [(0, .aload_n 0, 1), (1, .aload_n 0, 1), (2, .iload_n 1, 1), (3, .iconst 1, 1), (4, .invokevirtual 143, 3), (7, .invokevirtual 110, 3), (10, .ifCond .eq 15, 3), (13, .iconst 0, 1), (14, .ireturn, 1), (15, .iconst 0, 1), (16, .istore_n 3, 1), (17, .iconst 0, 1), (18, .istore 4, 2), (20, .iload 4, 2), (22, .sipush 576, 3), (25, .if_icmp .ge 59, 3), (28, .aload_n 0, 1), (29, .getfield 38, 3), (32, .sipush 576, 3), (35, .iload_n 1, 1), (36, .imul, 1), (37, .iload 4, 2), (39, .iadd, 1), (40, .iaload, 1), (41, .iload_n 2, 1), (42, .if_icmp .ne 51, 3), (45, .iload_n 3, 1), (46, .iconst 1, 1), (47, .iadd, 1), (48, .goto 52, 3), (51, .iload_n 3, 1), (52, .istore_n 3, 1), (53, .iinc 4 1, 3), (56, .goto 20, 3), (59, .iload_n 3, 1), (60, .ireturn, 1)]
/-- ToldShieldsModel.differ(II)I -/
def am_c136 : List (Nat × Instr × Nat) := [(0, .aload_n 0, 1), (1, .aload_n 0, 1), (2, .iload_n 1, 1), (3, .iload_n 2, 1), (4, .invokevirtual 144, 3), (7, .invokevirtual 110, 3), (10, .ifCond .eq 15, 3), (13, .iconst 0, 1), (14, .ireturn, 1), (15, .iconst 0, 1), (16, .istore_n 3, 1), (17, .iconst 0, 1), (18, .istore 4, 2), (20, .iload 4, 2), (22, .sipush 576, 3), (25, .if_icmp .ge 71, 3), (28, .aload_n 0, 1), (29, .getfield 38, 3), (32, .sipush 576, 3), (35, .iload_n 1, 1), (36, .imul, 1), (37, .iload 4, 2), (39, .iadd, 1), (40, .iaload, 1), (41, .aload_n 0, 1), (42, .getfield 38, 3), (45, .sipush 576, 3), (48, .iload_n 2, 1), (49, .imul, 1), (50, .iload 4, 2), (52, .iadd, 1), (53, .iaload, 1), (54, .if_icmp .eq 63, 3), (57, .iload_n 3, 1), (58, .iconst 1, 1), (59, .iadd, 1), (60, .goto 64, 3), (63, .iload_n 3, 1), (64, .istore_n 3, 1), (65, .iinc 4 1, 3), (68, .goto 20, 3), (71, .iload_n 3, 1), (72, .ireturn, 1)]
/-- ToldShieldsModel.wrongTwo(II)I -/
def am_c137 : List (Nat × Instr × Nat) := [(0, .iload_n 1, 1), (1, .ifCond .lt 22, 3), (4, .iload_n 1, 1), (5, .iconst 3, 1), (6, .if_icmp .ge 22, 3), (9, .iload_n 2, 1), (10, .ifCond .lt 22, 3), (13, .iload_n 2, 1), (14, .iconst 3, 1), (15, .if_icmp .ge 22, 3), (18, .iconst 1, 1), (19, .goto 23, 3), (22, .iconst 0, 1), (23, .istore_n 3, 1), (24, .iload_n 3, 1), (25, .ifCond .ne 32, 3), (28, .iconst 1, 1), (29, .goto 55, 3), (32, .aload_n 0, 1), (33, .getfield 37, 3), (36, .iload_n 1, 1), (37, .iaload, 1), (38, .ifCond .eq 50, 3), (41, .aload_n 0, 1), (42, .getfield 37, 3), (45, .iload_n 2, 1), (46, .iaload, 1), (47, .ifCond .ne 54, 3), (50, .iconst 2, 1), (51, .goto 55, 3), (54, .iconst 0, 1), (55, .ireturn, 1)]
/-- ToldShieldsModel.breaches(I)I -/
def am_c138 : List (Nat × Instr × Nat) := [(0, .aload_n 0, 1), (1, .aload_n 0, 1), (2, .iload_n 1, 1), (3, .iconst 1, 1), (4, .invokevirtual 143, 3), (7, .invokevirtual 110, 3), (10, .ifCond .eq 17, 3), (13, .iconst 0, 1), (14, .goto 23, 3), (17, .aload_n 0, 1), (18, .getfield 40, 3), (21, .iload_n 1, 1), (22, .iaload, 1), (23, .ireturn, 1)]
/-- ToldShieldsModel.breach(II)I -/
def am_c139 : List (Nat × Instr × Nat) := [(0, .aload_n 0, 1), (1, .aload_n 0, 1), (2, .iload_n 1, 1), (3, .iconst 1, 1), (4, .invokevirtual 143, 3), (7, .invokevirtual 110, 3), (10, .ifCond .eq 15, 3), (13, .iconst 0, 1), (14, .ireturn, 1), (15, .iload_n 2, 1), (16, .ifCond .lt 29, 3), (19, .iload_n 2, 1), (20, .aload_n 0, 1), (21, .getfield 40, 3), (24, .iload_n 1, 1), (25, .iaload, 1), (26, .if_icmp .lt 33, 3), (29, .iconst (-1), 1), (30, .goto 44, 3), (33, .aload_n 0, 1), (34, .getfield 39, 3), (37, .bipush 40, 2), (39, .iload_n 1, 1), (40, .imul, 1), (41, .iload_n 2, 1), (42, .iadd, 1), (43, .iaload, 1), (44, .ireturn, 1)]
/-- ToldShieldsModel.count(II)I -/
def am_c140 : List (Nat × Instr × Nat) := [(0, .iload_n 1, 1), (1, .ifCond .lt 13, 3), (4, .iload_n 1, 1), (5, .iconst 3, 1), (6, .if_icmp .ge 13, 3), (9, .iconst 1, 1), (10, .goto 14, 3), (13, .iconst 0, 1), (14, .istore_n 3, 1), (15, .aload_n 0, 1), (16, .iload_n 3, 1), (17, .ifCond .ne 24, 3), (20, .iconst 1, 1), (21, .goto 51, 3), (24, .iload_n 2, 1), (25, .ifCond .lt 33, 3), (28, .iload_n 2, 1), (29, .iconst 3, 1), (30, .if_icmp .le 37, 3), (33, .iconst 2, 1), (34, .goto 51, 3), (37, .aload_n 0, 1), (38, .getfield 37, 3), (41, .iload_n 1, 1), (42, .iaload, 1), (43, .ifCond .ne 50, 3), (46, .iconst 3, 1), (47, .goto 51, 3), (50, .iconst 0, 1), (51, .invokevirtual 110, 3), (54, .ifCond .eq 59, 3), (57, .iconst 0, 1), (58, .ireturn, 1), (59, .aload_n 0, 1), (60, .getfield 41, 3), (63, .iconst 4, 1), (64, .iload_n 1, 1), (65, .imul, 1), (66, .iload_n 2, 1), (67, .iadd, 1), (68, .iaload, 1), (69, .ireturn, 1)]
/-- ToldShieldsModel.same(II)Z -/
def am_c141 : List (Nat × Instr × Nat) := [(0, .aload_n 0, 1), (1, .aload_n 0, 1), (2, .iload_n 1, 1), (3, .iload_n 2, 1), (4, .invokevirtual 144, 3), (7, .invokevirtual 110, 3), (10, .ifCond .eq 15, 3), (13, .iconst 0, 1), (14, .ireturn, 1), (15, .aload_n 0, 1), (16, .getfield 37, 3), (19, .iload_n 1, 1), (20, .iaload, 1), (21, .aload_n 0, 1), (22, .getfield 37, 3), (25, .iload_n 2, 1), (26, .iaload, 1), (27, .if_icmp .ne 34, 3), (30, .iconst 1, 1), (31, .goto 35, 3), (34, .iconst 0, 1), (35, .istore_n 3, 1), (36, .iconst 0, 1), (37, .istore 4, 2), (39, .iload 4, 2), (41, .aload_n 0, 1), (42, .getfield 37, 3), (45, .iload_n 1, 1), (46, .iaload, 1), (47, .if_icmp .ge 93, 3), (50, .iload_n 3, 1), (51, .ifCond .eq 93, 3), (54, .aload_n 0, 1), (55, .getfield 36, 3), (58, .bipush 120, 2), (60, .iload_n 1, 1), (61, .imul, 1), (62, .iload 4, 2), (64, .iadd, 1), (65, .iaload, 1), (66, .aload_n 0, 1), (67, .getfield 36, 3), (70, .bipush 120, 2), (72, .iload_n 2, 1), (73, .imul, 1), (74, .iload 4, 2), (76, .iadd, 1), (77, .iaload, 1), (78, .if_icmp .ne 85, 3), (81, .iconst 1, 1), (82, .goto 86, 3), (85, .iconst 0, 1), (86, .istore_n 3, 1), (87, .iinc 4 1, 3), (90, .goto 39, 3), (93, .iload_n 3, 1), (94, .ireturn, 1)]
/-- ToldShieldsModel.tell(I)I -/
def am_c142 : List (Nat × Instr × Nat) := [(0, .aload_n 0, 1), (1, .iload_n 1, 1), (2, .iconst 0, 1), (3, .invokevirtual 145, 3), (6, .ireturn, 1)]
/-- ToldShieldsModel.write(IZ)I -/
def am_c143 : List (Nat × Instr × Nat) := [(0, .aload_n 0, 1), (1, .aload_n 0, 1), (2, .iload_n 1, 1), (3, .iconst 1, 1), (4, .invokevirtual 143, 3), (7, .invokevirtual 110, 3), (10, .ifCond .eq 15, 3), (13, .iconst 0, 1), (14, .ireturn, 1), (15, .aload_n 0, 1), (16, .iconst 0, 1), (17, .putfield 32, 3), (20, .iconst 0, 1), (21, .istore_n 3, 1), (22, .iload_n 3, 1), (23, .aload_n 0, 1), (24, .getfield 37, 3), (27, .iload_n 1, 1), (28, .iaload, 1), (29, .if_icmp .ge 134, 3), (32, .aload_n 0, 1), (33, .getfield 36, 3), (36, .bipush 120, 2), (38, .iload_n 1, 1), (39, .imul, 1), (40, .iload_n 3, 1), (41, .iadd, 1), (42, .iaload, 1), (43, .istore 4, 2), (45, .iload_n 2, 1), (46, .ifCond .eq 57, 3), (49, .iload 4, 2), (51, .invokestatic 146, 3), (54, .goto 59, 3), (57, .iload 4, 2), (59, .istore 4, 2), (61, .iload_n 3, 1), (62, .ifCond .le 71, 3), (65, .aload_n 0, 1), (66, .bipush 32, 2), (68, .invokevirtual 147, 3), (71, .iload 4, 2), (73, .bipush 15, 2), (75, .if_icmp .eq 85, 3), (78, .iload 4, 2), (80, .bipush 16, 2), (82, .if_icmp .ne 106, 3), (85, .aload_n 0, 1), (86, .iload 4, 2), (88, .bipush 15, 2), (90, .if_icmp .ne 98, 3), (93, .bipush 40, 2), (95, .goto 100, 3), (98, .bipush 41, 2), (100, .invokevirtual 147, 3), (103, .goto 128, 3), (106, .aload_n 0, 1), (107, .aload_n 0, 1), (108, .getfield 34, 3), (111, .iload 4, 2), (113, .laload, 1), (114, .invokevirtual 148, 3), (117, .aload_n 0, 1), (118, .aload_n 0, 1), (119, .getfield 35, 3), (122, .iload 4, 2), (124, .laload, 1), (125, .invokevirtual 148, 3), (128, .iinc 3 1, 3), (131, .goto 22, 3), (134, .aload_n 0, 1), (135, .getfield 32, 3), (138, .ireturn, 1)]
/-- ToldShieldsModel.other(I)I -/
def am_c144 : List (Nat × Instr × Nat) := [(0, .iload_n 0, 1), (1, .tableswitch 52 0 5 #[40, 42, 44, 46, 48, 50], 39), (40, .iconst 1, 1), (41, .ireturn, 1), (42, .iconst 0, 1), (43, .ireturn, 1), (44, .iconst 3, 1), (45, .ireturn, 1), (46, .iconst 2, 1), (47, .ireturn, 1), (48, .iconst 5, 1), (49, .ireturn, 1), (50, .iconst 4, 1), (51, .ireturn, 1), (52, .iload_n 0, 1), (53, .ireturn, 1)]
/-- ToldShieldsModel.put(I)V -/
def am_c145 : List (Nat × Instr × Nat) := [(0, .aload_n 0, 1), (1, .getfield 33, 3), (4, .aload_n 0, 1), (5, .getfield 32, 3), (8, .iload_n 1, 1), (9, .iastore, 1), (10, .aload_n 0, 1), (11, .dup, 1), (12, .getfield 32, 3), (15, .iconst 1, 1), (16, .iadd, 1), (17, .putfield 32, 3), (20, .return_, 1)]
/-- ToldShieldsModel.putLetters(J)V -/
def am_c146 : List (Nat × Instr × Nat) := [(0, .lconst 1, 1), (1, .lstore_n 3, 1), (2, .lload_n 3, 1), (3, .ldc2_w 160, 3), (6, .lmul, 1), (7, .lload_n 1, 1), (8, .lcmp, 1), (9, .ifCond .gt 21, 3), (12, .lload_n 3, 1), (13, .ldc2_w 160, 3), (16, .lmul, 1), (17, .lstore_n 3, 1), (18, .goto 2, 3), (21, .lload_n 3, 1), (22, .lconst 0, 1), (23, .lcmp, 1), (24, .ifCond .le 57, 3), (27, .lload_n 1, 1), (28, .lconst 0, 1), (29, .lcmp, 1), (30, .ifCond .le 57, 3), (33, .aload_n 0, 1), (34, .bipush 96, 2), (36, .lload_n 1, 1), (37, .lload_n 3, 1), (38, .ldiv, 1), (39, .ldc2_w 160, 3), (42, .lrem, 1), (43, .l2i, 1), (44, .iadd, 1), (45, .invokevirtual 147, 3), (48, .lload_n 3, 1), (49, .ldc2_w 160, 3), (52, .ldiv, 1), (53, .lstore_n 3, 1), (54, .goto 21, 3), (57, .return_, 1)]
/-- ToldShieldsModel.turned(I)I -/
def am_c147 : List (Nat × Instr × Nat) := [(0, .aload_n 0, 1), (1, .iload_n 1, 1), (2, .iconst 1, 1), (3, .invokevirtual 145, 3), (6, .ireturn, 1)]
/-- ToldShieldsModel.length()I -/
def am_c148 : List (Nat × Instr × Nat) := [(0, .aload_n 0, 1), (1, .iconst 0, 1), (2, .putfield 29, 3), (5, .aload_n 0, 1), (6, .getfield 32, 3), (9, .ireturn, 1)]
/-- ToldShieldsModel.charAt(I)C -/
def am_c149 : List (Nat × Instr × Nat) := [(0, .aload_n 0, 1), (1, .iconst 0, 1), (2, .putfield 29, 3), (5, .iload_n 1, 1), (6, .ifCond .lt 17, 3), (9, .iload_n 1, 1), (10, .aload_n 0, 1), (11, .getfield 32, 3), (14, .if_icmp .lt 22, 3), (17, .bipush 32, 2), (19, .goto 29, 3), (22, .aload_n 0, 1), (23, .getfield 33, 3), (26, .iload_n 1, 1), (27, .iaload, 1), (28, .i2c, 1), (29, .ireturn, 1)]
def am_cL (mi : Nat) : List (Nat × Instr × Nat) := match mi with
  | 0 => am_c0
  | 1 => am_c1
  | 2 => am_c2
  | 3 => am_c3
  | 4 => am_c4
  | 5 => am_c5
  | 6 => am_c6
  | 7 => am_c7
  | 8 => am_c8
  | 9 => am_c9
  | 10 => am_c10
  | 11 => am_c11
  | 12 => am_c12
  | 13 => am_c13
  | 14 => am_c14
  | 15 => am_c15
  | 16 => am_c16
  | 17 => am_c17
  | 18 => am_c18
  | 19 => am_c19
  | 20 => am_c20
  | 21 => am_c21
  | 22 => am_c22
  | 23 => am_c23
  | 24 => am_c24
  | 25 => am_c25
  | 26 => am_c26
  | 27 => am_c27
  | 28 => am_c28
  | 29 => am_c29
  | 30 => am_c30
  | 31 => am_c31
  | 32 => am_c32
  | 33 => am_c33
  | 34 => am_c34
  | 35 => am_c35
  | 36 => am_c36
  | 37 => am_c37
  | 38 => am_c38
  | 39 => am_c39
  | 40 => am_c40
  | 41 => am_c41
  | 42 => am_c42
  | 43 => am_c43
  | 44 => am_c44
  | 45 => am_c45
  | 46 => am_c46
  | 47 => am_c47
  | 48 => am_c48
  | 49 => am_c49
  | 50 => am_c50
  | 51 => am_c51
  | 52 => am_c52
  | 53 => am_c53
  | 54 => am_c54
  | 55 => am_c55
  | 56 => am_c56
  | 57 => am_c57
  | 58 => am_c58
  | 59 => am_c59
  | 60 => am_c60
  | 61 => am_c61
  | 62 => am_c62
  | 63 => am_c63
  | 64 => am_c64
  | 65 => am_c65
  | 66 => am_c66
  | 67 => am_c67
  | 68 => am_c68
  | 69 => am_c69
  | 70 => am_c70
  | 71 => am_c71
  | 72 => am_c72
  | 73 => am_c73
  | 74 => am_c74
  | 75 => am_c75
  | 76 => am_c76
  | 77 => am_c77
  | 78 => am_c78
  | 79 => am_c79
  | 80 => am_c80
  | 81 => am_c81
  | 82 => am_c82
  | 83 => am_c83
  | 84 => am_c84
  | 85 => am_c85
  | 86 => am_c86
  | 87 => am_c87
  | 88 => am_c88
  | 89 => am_c89
  | 90 => am_c90
  | 91 => am_c91
  | 92 => am_c92
  | 93 => am_c93
  | 94 => am_c94
  | 95 => am_c95
  | 96 => am_c96
  | 97 => am_c97
  | 98 => am_c98
  | 99 => am_c99
  | 100 => am_c100
  | 101 => am_c101
  | 102 => am_c102
  | 103 => am_c103
  | 104 => am_c104
  | 105 => am_c105
  | 106 => am_c106
  | 107 => am_c107
  | 108 => am_c108
  | 109 => am_c109
  | 110 => am_c110
  | 111 => am_c111
  | 112 => am_c112
  | 113 => am_c113
  | 114 => am_c114
  | 115 => am_c115
  | 116 => am_c116
  | 117 => am_c117
  | 118 => am_c118
  | 119 => am_c119
  | 120 => am_c120
  | 121 => am_c121
  | 122 => am_c122
  | 123 => am_c123
  | 124 => am_c124
  | 125 => am_c125
  | 126 => am_c126
  | 127 => am_c127
  | 128 => am_c128
  | 129 => am_c129
  | 130 => am_c130
  | 131 => am_c131
  | 132 => am_c132
  | 133 => am_c133
  | 134 => am_c134
  | 135 => am_c135
  | 136 => am_c136
  | 137 => am_c137
  | 138 => am_c138
  | 139 => am_c139
  | 140 => am_c140
  | 141 => am_c141
  | 142 => am_c142
  | 143 => am_c143
  | 144 => am_c144
  | 145 => am_c145
  | 146 => am_c146
  | 147 => am_c147
  | 148 => am_c148
  | 149 => am_c149
  | _ => []
def am_find (pc : Nat) : List (Nat × Instr × Nat) → Option (Instr × Nat)
  | [] => none
  | (q, i, n) :: r => if q = pc then some (i, n) else am_find pc r
def am_code (mi pc : Nat) : Option (Instr × Nat) := am_find pc (am_cL mi)
def am_nM : Nat := 150
def am_mnL : List MethodName := [⟨"ToldShieldsLaw", "law", "([I)Z"⟩, ⟨"ToldShields", "<init>", "()V"⟩, ⟨"ToldShields$Told", "<init>", "()V"⟩, ⟨"ToldShields", "type", "(C)Z"⟩, ⟨"ToldShields", "wipe", "()I"⟩, ⟨"ToldShields", "length", "()I"⟩, ⟨"ToldShields", "charAt", "(I)C"⟩, ⟨"ToldShieldsLaw", "read", "(LToldShields;I[J)I"⟩, ⟨"ToldShields", "read", "(I)I"⟩, ⟨"ToldShields", "refuseNoShield", "(I)V"⟩, ⟨"ToldShields$Told", "splitText", "([CI)V"⟩, ⟨"ToldShields", "isLetter", "(C)Z"⟩, ⟨"ToldShields$Told", "wordSpelled", "([CII)LToldShields$Word;"⟩, ⟨"ToldShields$Word", "isSpelled", "([CII)Z"⟩, ⟨"java/lang/String", "length", "()I"⟩, ⟨"java/lang/String", "coder", "()B"⟩, ⟨"java/lang/String", "charAt", "(I)C"⟩, ⟨"java/lang/String", "isLatin1", "()Z"⟩, ⟨"java/lang/StringLatin1", "charAt", "([BI)C"⟩, ⟨"ToldShields$Told", "addWord", "(LToldShields$Word;)V"⟩, ⟨"ToldShields$Reader", "<init>", "(LToldShields$Told;)V"⟩, ⟨"ToldShields$Reader", "readWhole", "()LToldShields$Shield;"⟩, ⟨"ToldShields$Told", "forgetCounts", "()V"⟩, ⟨"ToldShields$Reader", "readShield", "(I)LToldShields$Shield;"⟩, ⟨"java/lang/Math", "max", "(II)I"⟩, ⟨"ToldShields$Reader", "readField", "(I)LToldShields$Shield;"⟩, ⟨"ToldShields$Told", "wordAt", "(I)LToldShields$Word;"⟩, ⟨"ToldShields$Plain", "<init>", "(I)V"⟩, ⟨"ToldShields$Shield", "<init>", "(LToldShields$Word;LToldShields$Part;LToldShields$Part;)V"⟩, ⟨"ToldShields$Reader", "readDivision", "()LToldShields$Word;"⟩, ⟨"ToldShields$Reader", "take", "(LToldShields$Word;)Z"⟩, ⟨"ToldShields$Word", "canFollowPer", "()Z"⟩, ⟨"ToldShields$Reader", "readPart", "(I)LToldShields$Part;"⟩, ⟨"ToldShields$Reader", "readItem", "(LToldShields$Shield;)Z"⟩, ⟨"ToldShields$Reader", "readCharges", "(LToldShields$Shield;LToldShields$Ordinary;)Z"⟩, ⟨"ToldShields$Shield", "canBeCounterchanged", "()Z"⟩, ⟨"ToldShields$Plain", "plainTincture", "()I"⟩, ⟨"ToldShields$Shield", "plainTincture", "()I"⟩, ⟨"ToldShields$Reader", "readCoat", "(Z)I"⟩, ⟨"ToldShields$Shield", "isBrokenBy", "(I)Z"⟩, ⟨"ToldShields", "breaksLaw", "(II)Z"⟩, ⟨"ToldShields$Told", "addBreach", "(I)V"⟩, ⟨"ToldShields$Charges", "<init>", "(LToldShields$Word;ILToldShields$Word;I)V"⟩, ⟨"ToldShields$Layer", "<init>", "(I)V"⟩, ⟨"ToldShields$Shield", "addLayer", "(LToldShields$Layer;)V"⟩, ⟨"ToldShields$Reader", "readOrdinary", "(LToldShields$Shield;)LToldShields$Ordinary;"⟩, ⟨"ToldShields$Ordinary", "<init>", "(LToldShields$Word;I)V"⟩, ⟨"ToldShields$Word", "canBeCharged", "()Z"⟩, ⟨"ToldShields$Told", "paint", "(LToldShields$Shield;)V"⟩, ⟨"ToldShields$Shield", "tinctureAt", "(IIII)I"⟩, ⟨"ToldShields$Shield", "fieldAt", "(IIII)I"⟩, ⟨"ToldShields$Plain", "tinctureAt", "(IIII)I"⟩, ⟨"ToldShields$Charges", "covers", "(IIII)Z"⟩, ⟨"ToldShields$Charges", "rowsCover", "(IIIII)Z"⟩, ⟨"ToldShields$Charges", "chargesInRow", "(I)I"⟩, ⟨"java/lang/Math", "min", "(II)I"⟩, ⟨"ToldShields$Charges", "rowCovers", "(IIIII)Z"⟩, ⟨"ToldShields$Charges", "chargeCovers", "(IIII)Z"⟩, ⟨"java/lang/Math", "abs", "(I)I"⟩, ⟨"java/lang/Enum", "ordinal", "()I"⟩, ⟨"ToldShields$Ordinary", "covers", "(IIII)Z"⟩, ⟨"ToldShields$Ordinary", "isMiddle", "(II)Z"⟩, ⟨"ToldShields$Ordinary", "isBend", "(IIII)Z"⟩, ⟨"ToldShields$Ordinary", "isChevron", "(IIII)Z"⟩, ⟨"ToldShields$Ordinary", "isEdge", "(II)Z"⟩, ⟨"ToldShields$Shield", "otherThan", "(I)I"⟩, ⟨"ToldShieldsLaw", "cell", "(LToldShields;III[J)I"⟩, ⟨"ToldShields", "cell", "(III)I"⟩, ⟨"ToldShields", "refuseNoPlace", "(I)V"⟩, ⟨"ToldShields", "toldOf", "(I)LToldShields$Told;"⟩, ⟨"ToldShieldsLaw", "row", "(LToldShields;III[J)I"⟩, ⟨"ToldShields", "row", "(III)I"⟩, ⟨"ToldShieldsLaw", "cells", "(LToldShields;II[J)I"⟩, ⟨"ToldShields", "cells", "(II)I"⟩, ⟨"ToldShieldsLaw", "differ", "(LToldShields;II[J)I"⟩, ⟨"ToldShields", "differ", "(II)I"⟩, ⟨"ToldShieldsLaw", "breaches", "(LToldShields;I[J)I"⟩, ⟨"ToldShields", "breaches", "(I)I"⟩, ⟨"ToldShieldsLaw", "breach", "(LToldShields;II[J)I"⟩, ⟨"ToldShields", "breach", "(II)I"⟩, ⟨"ToldShieldsLaw", "count", "(LToldShields;II[J)I"⟩, ⟨"ToldShields", "count", "(II)I"⟩, ⟨"ToldShieldsLaw", "same", "(LToldShields;II[J)I"⟩, ⟨"ToldShields", "same", "(II)Z"⟩, ⟨"ToldShields$Told", "hasWordsOf", "(LToldShields$Told;)Z"⟩, ⟨"ToldShieldsLaw", "tell", "(LToldShields;I[J)I"⟩, ⟨"ToldShields", "tell", "(I)I"⟩, ⟨"ToldShields", "writePage", "(LToldShields$Told;Z)V"⟩, ⟨"ToldShields", "writeChar", "(C)V"⟩, ⟨"ToldShields$Word", "turnedWord", "()LToldShields$Word;"⟩, ⟨"ToldShields", "writeWord", "(LToldShields$Word;)V"⟩, ⟨"ToldShieldsLaw", "turned", "(LToldShields;I[J)I"⟩, ⟨"ToldShields", "turned", "(I)I"⟩, ⟨"ToldShieldsModel", "<init>", "()V"⟩, ⟨"ToldShieldsModel", "set", "(IJJ)V"⟩, ⟨"ToldShieldsModel", "thrown", "()I"⟩, ⟨"ToldShieldsModel", "type", "(C)Z"⟩, ⟨"ToldShieldsModel", "wipe", "()I"⟩, ⟨"ToldShieldsModel", "read", "(I)I"⟩, ⟨"ToldShieldsModel", "refused", "(I)Z"⟩, ⟨"ToldShieldsModel", "cutWords", "()V"⟩, ⟨"ToldShieldsModel", "isLetter", "(I)Z"⟩, ⟨"ToldShieldsModel", "find", "(II)I"⟩, ⟨"ToldShieldsModel", "readAll", "()I"⟩, ⟨"ToldShieldsModel", "newShield", "(I)I"⟩, ⟨"ToldShieldsModel", "push", "(II)V"⟩, ⟨"ToldShieldsModel", "take", "(III)I"⟩, ⟨"ToldShieldsModel", "takeField", "(II)I"⟩, ⟨"ToldShieldsModel", "isTincture", "(I)Z"⟩, ⟨"ToldShieldsModel", "takePart", "(II)I"⟩, ⟨"ToldShieldsModel", "takeItems", "(II)I"⟩, ⟨"ToldShieldsModel", "isNumber", "(I)Z"⟩, ⟨"ToldShieldsModel", "takeBehindA", "(II)I"⟩, ⟨"ToldShieldsModel", "isTwofold", "(I)Z"⟩, ⟨"ToldShieldsModel", "paint", "(II)I"⟩, ⟨"ToldShieldsModel", "isFirst", "(IIIII)Z"⟩, ⟨"ToldShieldsModel", "given", "(IZIIII)I"⟩, ⟨"ToldShieldsModel", "isCharged", "(IIIIII)Z"⟩, ⟨"ToldShieldsModel", "stripe", "(III)I"⟩, ⟨"ToldShieldsModel", "inRow", "(II)I"⟩, ⟨"ToldShieldsModel", "isInRow", "(IIIIIIII)Z"⟩, ⟨"ToldShieldsModel", "isCharge", "(IIIII)Z"⟩, ⟨"ToldShieldsModel", "size", "(I)I"⟩, ⟨"ToldShieldsModel", "isOnOrdinary", "(IIIII)Z"⟩, ⟨"ToldShieldsModel", "isOrdinary", "(IIIII)Z"⟩, ⟨"ToldShieldsModel", "isBend", "(IIII)Z"⟩, ⟨"ToldShieldsModel", "isChevron", "(II)Z"⟩, ⟨"ToldShieldsModel", "countAll", "(I)V"⟩, ⟨"ToldShieldsModel", "judge", "(I)V"⟩, ⟨"ToldShieldsModel", "classOf", "(I)I"⟩, ⟨"ToldShieldsModel", "ground", "(I)I"⟩, ⟨"ToldShieldsModel", "isBroken", "(II)Z"⟩, ⟨"ToldShieldsModel", "cell", "(III)I"⟩, ⟨"ToldShieldsModel", "wrong", "(IZ)I"⟩, ⟨"ToldShieldsModel", "row", "(III)I"⟩, ⟨"ToldShieldsModel", "cells", "(II)I"⟩, ⟨"ToldShieldsModel", "differ", "(II)I"⟩, ⟨"ToldShieldsModel", "wrongTwo", "(II)I"⟩, ⟨"ToldShieldsModel", "breaches", "(I)I"⟩, ⟨"ToldShieldsModel", "breach", "(II)I"⟩, ⟨"ToldShieldsModel", "count", "(II)I"⟩, ⟨"ToldShieldsModel", "same", "(II)Z"⟩, ⟨"ToldShieldsModel", "tell", "(I)I"⟩, ⟨"ToldShieldsModel", "write", "(IZ)I"⟩, ⟨"ToldShieldsModel", "other", "(I)I"⟩, ⟨"ToldShieldsModel", "put", "(I)V"⟩, ⟨"ToldShieldsModel", "putLetters", "(J)V"⟩, ⟨"ToldShieldsModel", "turned", "(I)I"⟩, ⟨"ToldShieldsModel", "length", "()I"⟩, ⟨"ToldShieldsModel", "charAt", "(I)C"⟩]
def am_mn (mi : Nat) : MethodName := am_mnL.getD mi ⟨"", "", ""⟩
def am_mb (mi : Nat) : ByteArray := match mi with
  | 0 => code
  | 1 => prog_1_method_1_code
  | 2 => prog_10_method_1_code
  | 3 => prog_1_method_2_code
  | 4 => prog_1_method_3_code
  | 5 => prog_1_method_15_code
  | 6 => prog_1_method_16_code
  | 7 => method_3_code
  | 8 => prog_1_method_4_code
  | 9 => prog_1_method_17_code
  | 10 => prog_10_method_2_code
  | 11 => prog_1_method_23_code
  | 12 => prog_10_method_4_code
  | 13 => prog_11_method_5_code
  | 14 => prog_21_method_54_code
  | 15 => prog_21_method_152_code
  | 16 => prog_21_method_56_code
  | 17 => prog_21_method_154_code
  | 18 => prog_22_method_2_code
  | 19 => prog_10_method_3_code
  | 20 => prog_8_method_1_code
  | 21 => prog_8_method_2_code
  | 22 => prog_10_method_7_code
  | 23 => prog_8_method_3_code
  | 24 => prog_19_method_65_code
  | 25 => prog_8_method_4_code
  | 26 => prog_10_method_5_code
  | 27 => prog_7_method_1_code
  | 28 => prog_9_method_1_code
  | 29 => prog_8_method_5_code
  | 30 => prog_8_method_11_code
  | 31 => prog_11_method_8_code
  | 32 => prog_8_method_6_code
  | 33 => prog_8_method_7_code
  | 34 => prog_8_method_9_code
  | 35 => prog_9_method_3_code
  | 36 => prog_7_method_3_code
  | 37 => prog_9_method_5_code
  | 38 => prog_8_method_10_code
  | 39 => prog_9_method_4_code
  | 40 => prog_1_method_24_code
  | 41 => prog_10_method_8_code
  | 42 => prog_3_method_1_code
  | 43 => prog_4_method_1_code
  | 44 => prog_9_method_2_code
  | 45 => prog_8_method_8_code
  | 46 => prog_5_method_1_code
  | 47 => prog_11_method_7_code
  | 48 => prog_10_method_9_code
  | 49 => prog_9_method_6_code
  | 50 => prog_9_method_8_code
  | 51 => prog_7_method_2_code
  | 52 => prog_3_method_2_code
  | 53 => prog_3_method_3_code
  | 54 => prog_3_method_4_code
  | 55 => prog_19_method_69_code
  | 56 => prog_3_method_5_code
  | 57 => prog_3_method_6_code
  | 58 => prog_19_method_59_code
  | 59 => prog_14_method_2_code
  | 60 => prog_5_method_2_code
  | 61 => prog_5_method_3_code
  | 62 => prog_5_method_4_code
  | 63 => prog_5_method_5_code
  | 64 => prog_5_method_6_code
  | 65 => prog_9_method_7_code
  | 66 => method_4_code
  | 67 => prog_1_method_5_code
  | 68 => prog_1_method_18_code
  | 69 => prog_1_method_19_code
  | 70 => method_5_code
  | 71 => prog_1_method_6_code
  | 72 => method_6_code
  | 73 => prog_1_method_7_code
  | 74 => method_7_code
  | 75 => prog_1_method_8_code
  | 76 => method_8_code
  | 77 => prog_1_method_9_code
  | 78 => method_9_code
  | 79 => prog_1_method_10_code
  | 80 => method_10_code
  | 81 => prog_1_method_11_code
  | 82 => method_11_code
  | 83 => prog_1_method_12_code
  | 84 => prog_10_method_6_code
  | 85 => method_12_code
  | 86 => prog_1_method_13_code
  | 87 => prog_1_method_20_code
  | 88 => prog_1_method_22_code
  | 89 => prog_11_method_6_code
  | 90 => prog_1_method_21_code
  | 91 => method_13_code
  | 92 => prog_1_method_14_code
  | 93 => prog_13_method_1_code
  | 94 => prog_13_method_2_code
  | 95 => prog_13_method_3_code
  | 96 => prog_13_method_5_code
  | 97 => prog_13_method_6_code
  | 98 => prog_13_method_37_code
  | 99 => prog_13_method_4_code
  | 100 => prog_13_method_9_code
  | 101 => prog_13_method_7_code
  | 102 => prog_13_method_8_code
  | 103 => prog_13_method_20_code
  | 104 => prog_13_method_13_code
  | 105 => prog_13_method_10_code
  | 106 => prog_13_method_15_code
  | 107 => prog_13_method_16_code
  | 108 => prog_13_method_11_code
  | 109 => prog_13_method_17_code
  | 110 => prog_13_method_18_code
  | 111 => prog_13_method_12_code
  | 112 => prog_13_method_19_code
  | 113 => prog_13_method_14_code
  | 114 => prog_13_method_33_code
  | 115 => prog_13_method_31_code
  | 116 => prog_13_method_32_code
  | 117 => prog_13_method_29_code
  | 118 => prog_13_method_26_code
  | 119 => prog_13_method_27_code
  | 120 => prog_13_method_28_code
  | 121 => prog_13_method_25_code
  | 122 => prog_13_method_21_code
  | 123 => prog_13_method_30_code
  | 124 => prog_13_method_23_code
  | 125 => prog_13_method_22_code
  | 126 => prog_13_method_24_code
  | 127 => prog_13_method_38_code
  | 128 => prog_13_method_39_code
  | 129 => prog_13_method_34_code
  | 130 => prog_13_method_35_code
  | 131 => prog_13_method_36_code
  | 132 => prog_13_method_41_code
  | 133 => prog_13_method_40_code
  | 134 => prog_13_method_42_code
  | 135 => prog_13_method_43_code
  | 136 => prog_13_method_45_code
  | 137 => prog_13_method_44_code
  | 138 => prog_13_method_46_code
  | 139 => prog_13_method_47_code
  | 140 => prog_13_method_48_code
  | 141 => prog_13_method_49_code
  | 142 => prog_13_method_54_code
  | 143 => prog_13_method_53_code
  | 144 => prog_13_method_52_code
  | 145 => prog_13_method_50_code
  | 146 => prog_13_method_51_code
  | 147 => prog_13_method_55_code
  | 148 => prog_13_method_56_code
  | 149 => prog_13_method_57_code
  | _ => ByteArray.empty
def am_mlL : List Nat := [7, 2, 1, 2, 2, 1, 2, 4, 5, 2, 5, 1, 4, 5, 1, 1, 2, 1, 2, 2, 2, 2, 1, 4, 2, 6, 2, 2, 4, 2, 2, 1, 4, 3, 7, 1, 1, 1, 3, 2, 2, 2, 5, 2, 2, 5, 3, 1, 3, 8, 10, 5, 5, 9, 2, 2, 9, 7, 1, 1, 5, 2, 4, 5, 2, 2, 6, 4, 2, 3, 6, 7, 5, 6, 5, 7, 4, 2, 5, 4, 5, 4, 5, 3, 3, 4, 2, 5, 2, 1, 3, 4, 2, 1, 6, 1, 2, 2, 4, 2, 3, 1, 9, 4, 2, 3, 4, 3, 1, 4, 4, 1, 4, 2, 12, 6, 9, 8, 4, 2, 11, 7, 1, 8, 7, 4, 2, 7, 10, 1, 3, 3, 4, 3, 6, 5, 5, 4, 2, 3, 4, 5, 2, 5, 1, 2, 5, 2, 1, 2]
def am_ml (mi : Nat) : Nat := am_mlL.getD mi 0
def am_mrL : List (Option FieldType) := [some .boolean, none, none, some .boolean, some .int, some .int, some .char, some .int, some .int, none, none, some .boolean, some (.object "ToldShields$Word"), some .boolean, some .int, some .byte, some .char, some .boolean, some .char, none, none, some (.object "ToldShields$Shield"), none, some (.object "ToldShields$Shield"), some .int, some (.object "ToldShields$Shield"), some (.object "ToldShields$Word"), none, none, some (.object "ToldShields$Word"), some .boolean, some .boolean, some (.object "ToldShields$Part"), some .boolean, some .boolean, some .boolean, some .int, some .int, some .int, some .boolean, some .boolean, none, none, none, none, some (.object "ToldShields$Ordinary"), none, some .boolean, none, some .int, some .int, some .int, some .boolean, some .boolean, some .int, some .int, some .boolean, some .boolean, some .int, some .int, some .boolean, some .boolean, some .boolean, some .boolean, some .boolean, some .int, some .int, some .int, none, some (.object "ToldShields$Told"), some .int, some .int, some .int, some .int, some .int, some .int, some .int, some .int, some .int, some .int, some .int, some .int, some .int, some .boolean, some .boolean, some .int, some .int, none, none, some (.object "ToldShields$Word"), none, some .int, some .int, none, none, some .int, some .boolean, some .int, some .int, some .boolean, none, some .boolean, some .int, some .int, some .int, none, some .int, some .int, some .boolean, some .int, some .int, some .boolean, some .int, some .boolean, some .int, some .boolean, some .int, some .boolean, some .int, some .int, some .boolean, some .boolean, some .int, some .boolean, some .boolean, some .boolean, some .boolean, none, none, some .int, some .int, some .boolean, some .int, some .int, some .int, some .int, some .int, some .int, some .int, some .int, some .int, some .boolean, some .int, some .int, some .int, none, none, some .int, some .int, some .char]
def am_mr (mi : Nat) : Option FieldType := am_mrL.getD mi none
def am_moL : List Nat := [0, 1, 2, 1, 1, 1, 1, 0, 1, 1, 2, 1, 2, 3, 4, 4, 4, 4, 5, 2, 6, 6, 2, 6, 7, 6, 2, 8, 9, 6, 6, 3, 6, 6, 6, 9, 8, 9, 6, 9, 1, 2, 10, 11, 9, 6, 12, 3, 2, 9, 9, 8, 10, 10, 10, 7, 10, 10, 7, 13, 12, 12, 12, 12, 12, 9, 0, 1, 1, 1, 0, 1, 0, 1, 0, 1, 0, 1, 0, 1, 0, 1, 0, 1, 2, 0, 1, 1, 1, 3, 1, 0, 1, 14, 14, 14, 14, 14, 14, 14, 14, 14, 14, 14, 14, 14, 14, 14, 14, 14, 14, 14, 14, 14, 14, 14, 14, 14, 14, 14, 14, 14, 14, 14, 14, 14, 14, 14, 14, 14, 14, 14, 14, 14, 14, 14, 14, 14, 14, 14, 14, 14, 14, 14, 14, 14, 14, 14, 14, 14]
def am_mo (mi : Nat) : Nat := am_moL.getD mi 0
def am_owL : List String := ["ToldShieldsLaw", "ToldShields", "ToldShields$Told", "ToldShields$Word", "java/lang/String", "java/lang/StringLatin1", "ToldShields$Reader", "java/lang/Math", "ToldShields$Plain", "ToldShields$Shield", "ToldShields$Charges", "ToldShields$Layer", "ToldShields$Ordinary", "java/lang/Enum", "ToldShieldsModel"]
def am_ow (ow : Nat) : String := am_owL.getD ow ""
def am_okm (mi : Nat) : Bool := decide (1 ≤ mi) && decide (mi < 150) && decide (am_mo mi ≠ 7)
def am_ini (mi : Nat) : Bool := decide ((am_mn mi).name = "<init>")
def am_hs (mi : Nat) : List (Nat × Nat × Nat × Nat) := match mi with
  | 7 => [(0, 9, 12, 13)]
  | 66 => [(0, 12, 15, 13), (0, 12, 19, 19)]
  | 70 => [(0, 12, 15, 13), (0, 12, 19, 19)]
  | 72 => [(0, 10, 13, 13), (0, 10, 17, 19)]
  | 74 => [(0, 10, 13, 13), (0, 10, 17, 19)]
  | 76 => [(0, 9, 12, 13), (0, 9, 15, 19)]
  | 78 => [(0, 10, 13, 13), (0, 10, 17, 19)]
  | 80 => [(0, 10, 13, 13), (0, 10, 17, 40), (0, 10, 21, 19)]
  | 82 => [(0, 17, 20, 13), (0, 17, 24, 19)]
  | 85 => [(0, 9, 12, 13), (0, 9, 15, 19)]
  | 91 => [(0, 9, 12, 13), (0, 9, 15, 19)]
  | _ => []
def am_noh (mi : Nat) : Bool := (am_hs mi).isEmpty
/-- the class that a catch clause of the law names -/
def am_ct (k : Nat) : Nat := match k with
  | 13 => 8
  | 19 => 9
  | _ => 10
def am_hf (pc x : Nat) : List (Nat × Nat × Nat × Nat) → Option Nat
  | [] => none
  | (a, b, t, k) :: r => if a ≤ pc ∧ pc < b ∧ am_ct k = x then some t else am_hf pc x r
def am_hnd (mi pc x : Nat) : Option Nat := am_hf pc x (am_hs mi)
def am_cnL : List String := ["ToldShields", "ToldShields$Told", "ToldShieldsModel", "ToldShields$Reader", "ToldShields$Plain", "ToldShields$Shield", "ToldShields$Charges", "ToldShields$Ordinary", "java/lang/IndexOutOfBoundsException", "java/lang/IllegalStateException", "java/lang/IllegalArgumentException", "ToldShields$Word", "java/lang/String"]
def am_cn (ci : Nat) : String := am_cnL.getD ci ""
def am_own (ci : Nat) : Bool := decide (ci < 11)
def am_NL : List Nat := [6, 10, 28, 2, 1, 5, 4, 2, 6, 6, 6, 0, 0]
def am_N (ci : Nat) : Nat := am_NL.getD ci 0
def am_layL : List (List Nat) := [[10, 11, 12, 13, 14, 15], [0, 1, 2, 3, 4, 5, 6, 7, 8, 9], [29, 30, 31, 32, 33, 34, 35, 36, 37, 38, 39, 40, 41, 42, 43, 44, 45, 46, 47, 48, 49, 50, 51, 52, 53, 54, 55, 56], [16, 17], [18], [19, 20, 21, 22, 23], [24, 25, 26, 27], [28, 27], [], [], [], [57, 58, 59, 60], [61, 62]]
def am_lay (ci : Nat) : List Nat := am_layL.getD ci []
/-- the fields: who declares it, its name, its descriptor -/
def am_fdL : List (String × String × String) := [("ToldShields$Told", "words", "[LToldShields$Word;"), ("ToldShields$Told", "wordCount", "I"), ("ToldShields$Told", "picture", "[I"), ("ToldShields$Told", "breachWords", "[I"), ("ToldShields$Told", "breachCount", "I"), ("ToldShields$Told", "shieldCount", "I"), ("ToldShields$Told", "itemCount", "I"), ("ToldShields$Told", "chargeCount", "I"), ("ToldShields$Told", "depth", "I"), ("ToldShields$Told", "isRead", "Z"), ("ToldShields", "text", "[C"), ("ToldShields", "textLength", "I"), ("ToldShields", "page", "[C"), ("ToldShields", "pageLength", "I"), ("ToldShields", "shields", "[LToldShields$Told;"), ("ToldShields", "spare", "LToldShields$Told;"), ("ToldShields$Reader", "told", "LToldShields$Told;"), ("ToldShields$Reader", "at", "I"), ("ToldShields$Plain", "tincture", "I"), ("ToldShields$Shield", "division", "LToldShields$Word;"), ("ToldShields$Shield", "first", "LToldShields$Part;"), ("ToldShields$Shield", "second", "LToldShields$Part;"), ("ToldShields$Shield", "layers", "[LToldShields$Layer;"), ("ToldShields$Shield", "layerCount", "I"), ("ToldShields$Charges", "shape", "LToldShields$Word;"), ("ToldShields$Charges", "number", "I"), ("ToldShields$Charges", "ordinary", "LToldShields$Word;"), ("ToldShields$Layer", "tincture", "I"), ("ToldShields$Ordinary", "shape", "LToldShields$Word;"), ("ToldShieldsModel", "fault", "I"), ("ToldShieldsModel", "typed", "I"), ("ToldShieldsModel", "text", "[I"), ("ToldShieldsModel", "written", "I"), ("ToldShieldsModel", "page", "[I"), ("ToldShieldsModel", "nameOne", "[J"), ("ToldShieldsModel", "nameTwo", "[J"), ("ToldShieldsModel", "told", "[I"), ("ToldShieldsModel", "many", "[I"), ("ToldShieldsModel", "picture", "[I"), ("ToldShieldsModel", "broken", "[I"), ("ToldShieldsModel", "breaks", "[I"), ("ToldShieldsModel", "counts", "[I"), ("ToldShieldsModel", "word", "[I"), ("ToldShieldsModel", "words", "I"), ("ToldShieldsModel", "waiting", "I"), ("ToldShieldsModel", "expect", "[I"), ("ToldShieldsModel", "about", "[I"), ("ToldShieldsModel", "shields", "I"), ("ToldShieldsModel", "divided", "[I"), ("ToldShieldsModel", "part", "[I"), ("ToldShieldsModel", "deep", "[I"), ("ToldShieldsModel", "items", "[I"), ("ToldShieldsModel", "ordinary", "[I"), ("ToldShieldsModel", "coat", "[I"), ("ToldShieldsModel", "charge", "[I"), ("ToldShieldsModel", "charges", "[I"), ("ToldShieldsModel", "chargeCoat", "[I"), ("ToldShields$Word", "spelling", "Ljava/lang/String;"), ("ToldShields$Word", "kind", "I"), ("ToldShields$Word", "number", "I"), ("java/lang/Enum", "ordinal", "I"), ("java/lang/String", "value", "[B"), ("java/lang/String", "coder", "B")]
def am_ftL : List FieldType := [.array (.object "ToldShields$Word"), .int, .array .int, .array .int, .int, .int, .int, .int, .int, .boolean, .array .char, .int, .array .char, .int, .array (.object "ToldShields$Told"), .object "ToldShields$Told", .object "ToldShields$Told", .int, .int, .object "ToldShields$Word", .object "ToldShields$Part", .object "ToldShields$Part", .array (.object "ToldShields$Layer"), .int, .object "ToldShields$Word", .int, .object "ToldShields$Word", .int, .object "ToldShields$Word", .int, .int, .array .int, .int, .array .int, .array .long, .array .long, .array .int, .array .int, .array .int, .array .int, .array .int, .array .int, .array .int, .int, .int, .array .int, .array .int, .int, .array .int, .array .int, .array .int, .array .int, .array .int, .array .int, .array .int, .array .int, .array .int, .object "java/lang/String", .int, .int, .int, .array .byte, .byte]
def am_fty (f : Nat) : FieldType := am_ftL.getD f .int
def am_finL : List Bool := [true, false, true, true, false, false, false, false, false, false, true, false, true, false, true, false, true, false, true, true, true, true, true, false, true, true, true, true, true, false, false, true, false, true, true, true, true, true, true, true, true, true, true, false, false, true, true, false, true, true, true, true, true, true, true, true, true, true, true, true, true, true, true]
def am_fin (f : Nat) : Bool := am_finL.getD f false
def am_oka (t : Nat) : Bool := decide (t < 7) && decide (t ≠ 2)
def am_en (t : Nat) : String := match t with
  | 4 => "ToldShields$Word"
  | 5 => "ToldShields$Told"
  | _ => "ToldShields$Layer"
def am_cast (ci t : Nat) : Bool := (decide (t = 4) && decide (ci = 11)) || (decide (t = 5) && decide (ci = 1)) || (decide (t = 6) && (decide (ci = 6) || decide (ci = 7)))
/-- a row of numbers, sought by its first two -/
def am_s3 (a b : Nat) : List (Nat × Nat × Nat) → Option Nat
  | [] => none
  | (x, y, z) :: r => if x = a ∧ y = b then some z else am_s3 a b r
def am_flL : List (Nat × Nat × Nat) := [(2, 11, 0), (1, 125, 0), (2, 24, 1), (6, 28, 1), (1, 59, 1), (2, 17, 2), (1, 69, 2), (2, 21, 3), (1, 76, 3), (2, 51, 4), (1, 73, 4), (6, 31, 5), (2, 54, 5), (1, 86, 5), (6, 104, 6), (2, 57, 6), (1, 89, 6), (2, 60, 7), (6, 165, 7), (1, 92, 7), (6, 34, 8), (2, 63, 8), (1, 95, 8), (1, 55, 9), (1, 9, 10), (1, 27, 11), (1, 13, 12), (1, 106, 13), (1, 18, 14), (1, 23, 15), (6, 9, 16), (6, 24, 17), (1, 48, 17), (8, 7, 18), (9, 17, 19), (9, 21, 20), (9, 25, 21), (9, 11, 22), (9, 28, 23), (10, 7, 24), (10, 13, 25), (10, 17, 26), (11, 7, 27), (9, 50, 27), (6, 153, 27), (12, 7, 28), (6, 118, 28), (14, 153, 29), (14, 157, 30), (14, 7, 31), (14, 290, 32), (14, 13, 33), (14, 16, 34), (14, 20, 35), (14, 23, 36), (14, 26, 37), (14, 29, 38), (14, 32, 39), (14, 35, 40), (14, 38, 41), (14, 41, 42), (14, 162, 43), (14, 173, 44), (14, 44, 45), (14, 47, 46), (14, 176, 47), (14, 50, 48), (14, 53, 49), (14, 56, 50), (14, 59, 51), (14, 62, 52), (14, 65, 53), (14, 68, 54), (14, 71, 55), (14, 74, 56), (3, 142, 57), (4, 9, 61), (4, 15, 62), (6, 50, 58), (6, 61, 59), (13, 7, 60), (3, 146, 58), (3, 150, 59), (1, 139, 57)]
def am_fl (ow k : Nat) : Option Nat := am_s3 ow k am_flL
def am_plL : List (Nat × Nat × Nat) := [(1, 9, 0), (1, 13, 0), (1, 18, 0), (1, 23, 0), (1, 27, 0), (1, 55, 0), (1, 106, 0), (2, 11, 0), (2, 17, 0), (2, 21, 0), (2, 24, 0), (2, 51, 0), (2, 54, 0), (2, 57, 0), (2, 60, 0), (2, 63, 0), (6, 9, 0), (6, 24, 0), (6, 31, 0), (6, 34, 0), (6, 104, 0), (6, 165, 0), (8, 7, 0), (9, 11, 0), (9, 17, 0), (9, 21, 0), (9, 25, 0), (9, 28, 0), (10, 7, 0), (10, 13, 0), (10, 17, 0), (11, 7, 0), (12, 7, 0), (14, 7, 0), (14, 13, 0), (14, 16, 0), (14, 20, 0), (14, 23, 0), (14, 26, 0), (14, 29, 0), (14, 32, 0), (14, 35, 0), (14, 38, 0), (14, 41, 0), (14, 44, 0), (14, 47, 0), (14, 50, 0), (14, 53, 0), (14, 56, 0), (14, 59, 0), (14, 62, 0), (14, 65, 0), (14, 68, 0), (14, 71, 0), (14, 74, 0), (14, 153, 0), (14, 157, 0), (14, 162, 0), (14, 173, 0), (14, 176, 0), (14, 290, 0)]
def am_pl (ow k : Nat) : Bool := (am_s3 ow k am_plL).isSome
def am_glL : List (Nat × Nat × Nat) := [(2, 40, 0), (4, 38, 1), (2, 47, 2), (6, 88, 3), (6, 91, 4), (3, 63, 5), (3, 60, 6), (3, 66, 7), (6, 98, 8), (6, 101, 9), (6, 80, 10), (6, 107, 11), (6, 168, 12), (3, 57, 13), (6, 126, 14), (6, 129, 15), (9, 60, 7), (9, 65, 6), (9, 68, 5), (10, 20, 13), (10, 32, 5), (10, 55, 16), (10, 29, 6), (12, 13, 16), (3, 163, 0)]
def am_gl (ow k : Nat) : Option Nat := am_s3 ow k am_glL
def am_gsL : List Value := [.ref 38, .int 1, .ref 37, .ref 11, .ref 10, .ref 19, .ref 18, .ref 20, .ref 13, .ref 14, .ref 12, .ref 25, .ref 9, .ref 17, .ref 15, .ref 16, .ref 39]
def am_gst (f : Nat) : Option Value := am_gsL[f]?
def am_nlL : List (Nat × Nat × Nat) := [(0, 8, 0), (1, 16, 1), (1, 109, 8), (1, 39, 3), (6, 59, 4), (6, 67, 5), (6, 160, 6), (6, 119, 7), (1, 116, 9), (1, 79, 10), (0, 53, 2)]
def am_nl (ow k : Nat) : Option Nat := am_s3 ow k am_nlL
def am_alL : List (Nat × Nat × Nat) := [(1, 16, 5), (2, 9, 4), (9, 9, 6)]
def am_al (ow k : Nat) : Option Nat := am_s3 ow k am_alL
def am_ilL : List (Nat × Nat × Nat) := [(0, 52, 0), (0, 55, 1), (0, 56, 2), (0, 60, 3), (0, 61, 4), (0, 65, 5), (0, 66, 6), (0, 71, 7), (0, 72, 8), (0, 75, 9), (0, 78, 10), (0, 79, 11), (0, 81, 12), (0, 82, 13), (0, 85, 14), (0, 86, 15), (0, 88, 16), (0, 89, 17), (0, 91, 18), (0, 92, 19), (0, 94, 20), (0, 95, 21), (0, 97, 22), (0, 98, 23), (0, 100, 24), (0, 101, 25), (0, 103, 26), (0, 104, 27), (0, 106, 28), (0, 107, 29), (0, 110, 30), (0, 111, 31), (0, 115, 32), (1, 22, 33), (0, 7, 34), (1, 31, 35), (1, 35, 36), (1, 41, 37), (1, 44, 38), (1, 51, 39), (2, 28, 40), (2, 32, 41), (2, 36, 42), (2, 43, 43), (3, 153, 44), (3, 159, 45), (4, 335, 46), (4, 492, 47), (4, 495, 48), (6, 15, 49), (6, 20, 50), (6, 43, 51), (6, 46, 52), (6, 55, 53), (6, 64, 54), (6, 69, 55), (6, 72, 56), (6, 76, 57), (6, 84, 58), (6, 94, 59), (6, 110, 60), (6, 114, 61), (6, 123, 62), (6, 132, 63), (6, 135, 64), (6, 139, 65), (6, 156, 66), (6, 143, 67), (6, 162, 68), (6, 149, 69), (9, 32, 70), (9, 38, 71), (10, 1, 72), (6, 146, 73), (12, 1, 74), (2, 66, 75), (9, 42, 76), (9, 46, 77), (9, 53, 78), (9, 57, 79), (10, 25, 80), (10, 35, 81), (10, 39, 82), (10, 48, 83), (10, 61, 84), (12, 19, 85), (12, 25, 86), (12, 29, 87), (12, 33, 88), (12, 36, 89), (0, 15, 90), (1, 62, 91), (1, 65, 92), (0, 21, 93), (0, 24, 94), (0, 28, 95), (0, 31, 96), (0, 34, 97), (0, 37, 98), (0, 42, 99), (1, 98, 100), (0, 46, 101), (1, 102, 102), (1, 121, 103), (1, 129, 104), (1, 135, 105), (1, 143, 106), (1, 149, 107), (0, 49, 108), (14, 79, 109), (14, 257, 110), (14, 260, 111), (14, 263, 112), (14, 267, 113), (14, 270, 114), (14, 274, 115), (14, 165, 116), (14, 169, 117), (14, 204, 118), (14, 197, 119), (14, 208, 120), (14, 179, 121), (14, 182, 122), (14, 185, 123), (14, 188, 124), (14, 191, 125), (14, 194, 126), (14, 201, 127), (14, 247, 128), (14, 250, 129), (14, 240, 130), (14, 244, 131), (14, 237, 132), (14, 223, 133), (14, 230, 134), (14, 233, 135), (14, 226, 136), (14, 212, 137), (14, 215, 138), (14, 219, 139), (14, 254, 140), (14, 277, 141), (14, 280, 142), (14, 283, 143), (14, 287, 144), (14, 303, 145), (14, 296, 146), (14, 293, 147), (14, 299, 148)]
def am_il (ow k : Nat) : Option Nat := am_s3 ow k am_ilL
def am_lcL : List (Nat × Nat × Int64) := [(14, 77, 498), (14, 83, 52663764), (14, 85, 8040627), (14, 87, 1922629), (14, 89, 726612), (14, 91, 19958149), (14, 93, 17903932997), (14, 95, 187082181), (14, 97, 722226), (14, 99, 16562), (14, 101, 525701), (14, 103, 202355), (14, 105, 71108), (14, 107, 606717220428), (14, 109, 25), (14, 111, 1476), (14, 113, 3417254), (14, 115, 3751539), (14, 117, 20447897157), (14, 119, 3495643630), (14, 121, 2669827653), (14, 123, 3491306660), (14, 125, 763528), (14, 127, 19853152428), (14, 129, 76951732), (14, 131, 13415659749), (14, 133, 635300877715), (14, 135, 2462455443), (14, 137, 429301111987), (14, 139, 21231), (14, 141, 21252261), (14, 143, 212658), (14, 145, 206533), (14, 147, 19768), (14, 149, 119905326659), (14, 151, 269950116), (14, 160, 32)]
def am_s3l (a b : Nat) : List (Nat × Nat × Int64) → Option Int64
  | [] => none
  | (x, y, z) :: r => if x = a ∧ y = b then some z else am_s3l a b r
def am_lc (mi k : Nat) : Option Int64 := am_s3l (am_mo mi) k am_lcL
def am_argL : List (Nat × Bool) := [(1, false), (1, false), (2, false), (2, false), (1, false), (1, false), (3, true), (2, false), (1, false), (5, true), (4, false), (5, true), (4, false), (4, true), (3, false), (4, true), (3, false), (3, true), (2, false), (4, true), (3, false), (4, true), (3, false), (4, true), (3, false), (3, true), (2, false), (3, true), (2, false), (1, false), (1, false), (2, false), (2, false), (1, false), (2, false), (2, false), (3, false), (2, false), (1, false), (2, false), (1, true), (3, true), (2, false), (4, false), (1, false), (2, false), (1, false), (1, false), (2, true), (1, false), (2, false), (2, false), (2, false), (2, false), (2, false), (4, false), (1, false), (2, false), (2, false), (1, false), (3, false), (2, false), (1, false), (1, false), (2, false), (2, false), (2, true), (2, false), (5, false), (2, false), (1, false), (2, true), (2, false), (3, false), (2, false), (5, false), (5, false), (5, false), (2, false), (5, false), (6, false), (2, false), (6, false), (5, false), (1, false), (1, false), (2, true), (4, true), (4, true), (2, true), (4, false), (2, false), (2, false), (4, false), (3, false), (3, false), (2, false), (3, false), (3, false), (3, false), (2, false), (2, false), (3, false), (2, false), (1, false), (2, false), (1, false), (2, false), (2, false), (4, false), (2, false), (1, false), (1, false), (3, false), (2, false), (2, false), (1, true), (3, false), (2, false), (3, false), (4, false), (3, false), (3, false), (3, false), (3, false), (1, true), (2, false), (1, true), (6, false), (7, false), (6, true), (6, false), (5, true), (3, true), (2, true), (8, true), (5, true), (1, true), (4, true), (2, true), (1, true), (2, false), (3, false), (3, false), (3, false), (3, false), (1, true), (2, false), (2, false)]
def am_arg (x : Nat) : Option (Nat × Bool) := am_argL[x]?
def am_sk (a : Nat) : List (Nat × Nat) → Option Nat
  | [] => none
  | (x, y) :: r => if x = a then some y else am_sk a r
def am_tgL : List (List (Nat × Nat)) := [[(0, 1)], [(2, 93)], [(0, 3)], [(2, 96)], [(0, 4)], [(2, 97)], [(0, 7)], [(2, 98)], [(2, 95)], [(0, 66)], [(2, 132)], [(0, 70)], [(2, 134)], [(0, 72)], [(2, 135)], [(0, 74)], [(2, 136)], [(0, 76)], [(2, 138)], [(0, 78)], [(2, 139)], [(0, 80)], [(2, 140)], [(0, 82)], [(2, 141)], [(0, 85)], [(2, 142)], [(0, 91)], [(2, 147)], [(0, 5)], [(2, 148)], [(0, 6)], [(2, 149)], [(1, 2)], [(0, 8)], [(0, 9)], [(1, 10)], [(3, 20)], [(3, 21)], [(1, 48)], [(0, 11)], [(0, 12)], [(1, 19)], [(11, 13)], [(12, 14)], [(12, 16)], [(12, 15)], [(12, 17)], [(0, 18)], [(1, 22)], [(3, 23)], [(3, 25)], [(1, 26)], [(3, 33)], [(4, 27)], [(5, 28)], [(3, 29)], [(3, 32)], [(3, 30)], [(11, 31)], [(3, 34)], [(3, 45)], [(11, 47)], [(5, 35)], [(3, 38)], [(5, 39)], [(0, 40)], [(1, 41)], [(6, 42)], [(5, 44)], [(4, 36), (5, 37)], [(0, 40)], [(6, 43), (7, 43)], [(7, 46)], [(6, 43), (7, 43)], [(5, 49)], [(5, 50)], [(6, 52), (7, 60)], [(5, 65)], [(4, 51), (5, 49)], [(6, 53)], [(6, 54)], [(6, 56)], [(6, 57)], [(11, 59)], [(11, 59)], [(0, 61)], [(0, 62)], [(0, 63)], [(0, 64)], [(0, 67)], [(0, 68)], [(0, 69)], [(0, 71)], [(0, 73)], [(0, 75)], [(0, 77)], [(0, 79)], [(0, 81)], [(0, 83)], [(1, 84)], [(0, 86)], [(0, 87)], [(0, 88)], [(11, 89)], [(0, 90)], [(12, 14)], [(12, 16)], [(0, 92)], [(2, 94)], [(2, 99)], [(2, 100)], [(2, 103)], [(2, 114)], [(2, 127)], [(2, 128)], [(0, 101)], [(2, 102)], [(2, 104)], [(2, 105)], [(2, 106)], [(2, 107)], [(2, 109)], [(2, 110)], [(2, 112)], [(0, 108)], [(2, 113)], [(0, 111)], [(2, 115)], [(2, 116)], [(0, 117)], [(2, 123)], [(0, 124)], [(0, 118)], [(0, 119)], [(0, 120)], [(0, 121)], [(0, 122)], [(0, 125)], [(0, 126)], [(0, 129)], [(2, 130)], [(2, 131)], [(2, 133)], [(2, 137)], [(2, 143)], [(0, 144)], [(2, 145)], [(2, 146)]]
def am_tgt (x ci : Nat) : Option Nat := am_sk ci (am_tgL.getD x [])
/-- the calls of Object.<init> and of String.checkIndex -/
def am_obL : List (Nat × Nat × Nat) := [(1, 3, 0), (2, 3, 0), (6, 3, 0), (8, 1, 0), (9, 3, 0), (11, 1, 0), (14, 1, 0)]
def am_ciL : List (Nat × Nat × Nat) := [(5, 9, 0)]
/-- the calls of Math.max (.dup_x2), min (.dup2_x1), abs (.swap) -/
def am_maL : List (Nat × Nat × Nat) := [(6, 37, 0), (10, 42, 1), (10, 52, 2), (12, 39, 2)]
def am_stat : List am_C := [.inl (11, [.ref 40, .int 1, .int 0, .int 0]),
  .inl (11, [.ref 41, .int 1, .int 1, .int 1]),
  .inl (11, [.ref 42, .int 1, .int 2, .int 2]),
  .inl (11, [.ref 43, .int 1, .int 3, .int 3]),
  .inl (11, [.ref 44, .int 1, .int 4, .int 4]),
  .inl (11, [.ref 45, .int 1, .int 5, .int 5]),
  .inl (11, [.ref 46, .int 1, .int 6, .int 6]),
  .inl (11, [.ref 47, .int 1, .int 7, .int 7]),
  .inl (11, [.ref 48, .int 1, .int 8, .int 8]),
  .inl (11, [.ref 49, .int 0, .int 9, .int 9]),
  .inl (11, [.ref 50, .int 0, .int 0, .int 10]),
  .inl (11, [.ref 51, .int 0, .int 0, .int 11]),
  .inl (11, [.ref 52, .int 0, .int 0, .int 12]),
  .inl (11, [.ref 53, .int 0, .int 0, .int 13]),
  .inl (11, [.ref 54, .int 0, .int 0, .int 14]),
  .inl (11, [.ref 55, .int 0, .int 0, .int 15]),
  .inl (11, [.ref 56, .int 0, .int 0, .int 16]),
  .inl (11, [.ref 57, .int 2, .int 0, .int 17]),
  .inl (11, [.ref 58, .int 2, .int 0, .int 18]),
  .inl (11, [.ref 59, .int 2, .int 0, .int 19]),
  .inl (11, [.ref 60, .int 2, .int 0, .int 20]),
  .inl (11, [.ref 61, .int 2, .int 0, .int 21]),
  .inl (11, [.ref 62, .int 2, .int 0, .int 22]),
  .inl (11, [.ref 63, .int 2, .int 0, .int 23]),
  .inl (11, [.ref 64, .int 2, .int 0, .int 24]),
  .inl (11, [.ref 65, .int 3, .int 1, .int 25]),
  .inl (11, [.ref 66, .int 3, .int 2, .int 26]),
  .inl (11, [.ref 67, .int 3, .int 3, .int 27]),
  .inl (11, [.ref 68, .int 3, .int 4, .int 28]),
  .inl (11, [.ref 69, .int 3, .int 5, .int 29]),
  .inl (11, [.ref 70, .int 3, .int 6, .int 30]),
  .inl (11, [.ref 71, .int 4, .int 0, .int 31]),
  .inl (11, [.ref 72, .int 4, .int 0, .int 32]),
  .inl (11, [.ref 73, .int 4, .int 0, .int 33]),
  .inl (11, [.ref 74, .int 5, .int 0, .int 34]),
  .inl (11, [.ref 75, .int 5, .int 0, .int 35]),
  .inl (11, [.ref 76, .int 5, .int 0, .int 36]),
  .inl (11, [.ref 77, .int 0, .int 0, .int 37]),
  .inr (4, [.ref 0, .ref 1, .ref 2, .ref 3, .ref 4, .ref 5, .ref 6, .ref 7, .ref 8, .ref 9, .ref 10, .ref 11, .ref 12, .ref 13, .ref 14, .ref 15, .ref 16, .ref 17, .ref 18, .ref 19, .ref 20, .ref 21, .ref 22, .ref 23, .ref 24, .ref 25, .ref 26, .ref 27, .ref 28, .ref 29, .ref 30, .ref 31, .ref 32, .ref 33, .ref 34, .ref 35, .ref 36, .ref 37]),
  .inr (0, [.int 0, .int 0, .int 0, .int 0, .int 0, .int 0, .int 0, .int 0, .int 0, .int 0, .int 0, .int 0, .int 0, .int 0, .int 0, .int 0, .int 0, .int 1, .int 2, .int 3, .int 4, .int 5, .int 6, .int 7, .int 0, .int 0, .int 0, .int 0, .int 0, .int 0, .int 0, .int 8, .int 10, .int 0, .int 9, .int 11, .int 0, .int 0]),
  .inl (12, [.ref 78, .int 0]),
  .inl (12, [.ref 79, .int 0]),
  .inl (12, [.ref 80, .int 0]),
  .inl (12, [.ref 81, .int 0]),
  .inl (12, [.ref 82, .int 0]),
  .inl (12, [.ref 83, .int 0]),
  .inl (12, [.ref 84, .int 0]),
  .inl (12, [.ref 85, .int 0]),
  .inl (12, [.ref 86, .int 0]),
  .inl (12, [.ref 87, .int 0]),
  .inl (12, [.ref 88, .int 0]),
  .inl (12, [.ref 89, .int 0]),
  .inl (12, [.ref 90, .int 0]),
  .inl (12, [.ref 91, .int 0]),
  .inl (12, [.ref 92, .int 0]),
  .inl (12, [.ref 93, .int 0]),
  .inl (12, [.ref 94, .int 0]),
  .inl (12, [.ref 95, .int 0]),
  .inl (12, [.ref 96, .int 0]),
  .inl (12, [.ref 97, .int 0]),
  .inl (12, [.ref 98, .int 0]),
  .inl (12, [.ref 99, .int 0]),
  .inl (12, [.ref 100, .int 0]),
  .inl (12, [.ref 101, .int 0]),
  .inl (12, [.ref 102, .int 0]),
  .inl (12, [.ref 103, .int 0]),
  .inl (12, [.ref 104, .int 0]),
  .inl (12, [.ref 105, .int 0]),
  .inl (12, [.ref 106, .int 0]),
  .inl (12, [.ref 107, .int 0]),
  .inl (12, [.ref 108, .int 0]),
  .inl (12, [.ref 109, .int 0]),
  .inl (12, [.ref 110, .int 0]),
  .inl (12, [.ref 111, .int 0]),
  .inl (12, [.ref 112, .int 0]),
  .inl (12, [.ref 113, .int 0]),
  .inl (12, [.ref 114, .int 0]),
  .inl (12, [.ref 115, .int 0]),
  .inr (2, [.int 111, .int 114]),
  .inr (2, [.int 97, .int 114, .int 103, .int 101, .int 110, .int 116]),
  .inr (2, [.int 103, .int 117, .int 108, .int 101, .int 115]),
  .inr (2, [.int 97, .int 122, .int 117, .int 114, .int 101]),
  .inr (2, [.int 118, .int 101, .int 114, .int 116]),
  .inr (2, [.int 115, .int 97, .int 98, .int 108, .int 101]),
  .inr (2, [.int 112, .int 117, .int 114, .int 112, .int 117, .int 114, .int 101]),
  .inr (2, [.int 101, .int 114, .int 109, .int 105, .int 110, .int 101]),
  .inr (2, [.int 118, .int 97, .int 105, .int 114]),
  .inr (2, [.int 99, .int 111, .int 117, .int 110, .int 116, .int 101, .int 114, .int 99, .int 104, .int 97, .int 110, .int 103, .int 101, .int 100]),
  .inr (2, [.int 112, .int 101, .int 114]),
  .inr (2, [.int 113, .int 117, .int 97, .int 114, .int 116, .int 101, .int 114, .int 108, .int 121]),
  .inr (2, [.int 97, .int 110, .int 100]),
  .inr (2, [.int 40]),
  .inr (2, [.int 41]),
  .inr (2, [.int 99, .int 104, .int 97, .int 114, .int 103, .int 101, .int 100]),
  .inr (2, [.int 119, .int 105, .int 116, .int 104]),
  .inr (2, [.int 99, .int 104, .int 105, .int 101, .int 102]),
  .inr (2, [.int 102, .int 101, .int 115, .int 115]),
  .inr (2, [.int 112, .int 97, .int 108, .int 101]),
  .inr (2, [.int 98, .int 101, .int 110, .int 100]),
  .inr (2, [.int 99, .int 114, .int 111, .int 115, .int 115]),
  .inr (2, [.int 115, .int 97, .int 108, .int 116, .int 105, .int 114, .int 101]),
  .inr (2, [.int 99, .int 104, .int 101, .int 118, .int 114, .int 111, .int 110]),
  .inr (2, [.int 98, .int 111, .int 114, .int 100, .int 117, .int 114, .int 101]),
  .inr (2, [.int 97]),
  .inr (2, [.int 116, .int 119, .int 111]),
  .inr (2, [.int 116, .int 104, .int 114, .int 101, .int 101]),
  .inr (2, [.int 102, .int 111, .int 117, .int 114]),
  .inr (2, [.int 102, .int 105, .int 118, .int 101]),
  .inr (2, [.int 115, .int 105, .int 120]),
  .inr (2, [.int 114, .int 111, .int 117, .int 110, .int 100, .int 101, .int 108]),
  .inr (2, [.int 98, .int 105, .int 108, .int 108, .int 101, .int 116]),
  .inr (2, [.int 108, .int 111, .int 122, .int 101, .int 110, .int 103, .int 101]),
  .inr (2, [.int 114, .int 111, .int 117, .int 110, .int 100, .int 101, .int 108, .int 115]),
  .inr (2, [.int 98, .int 105, .int 108, .int 108, .int 101, .int 116, .int 115]),
  .inr (2, [.int 108, .int 111, .int 122, .int 101, .int 110, .int 103, .int 101, .int 115]),
  .inr (2, [])]
end
section
/-! Calls that may return or throw: what a callee's free contract gives the caller. No table of this claim is spoken of here. -/
section AmCalls
variable {p : Program} {l : Launch} {e : Env} {R : Room} {s : State} {m : MethodId} {args : Array Value} {below : List Frame} {meth : Method} {c : Code}
/-- the machine's state behind a callee that came to t -/
def am_af (U t : State) : State := (({ U with heap := t.heap, slotsUsed := t.slotsUsed } : State).setVm t.vm)
theorem am_back {y : MethodName} {S : Spec} {P : Array Value → State → Prop} {Q : Array Value → State → Outcome → State → Prop} {mc ms : Nat} {Bad : Loc → Prop}
    (hM : MetFree l y S P (fun _ _ _ _ _ => True) Q) {U : State} {locs : List Loc} {cells slots : Nat}
    (X : Stand p l e R s m args below meth c U locs cells slots) {g : JFrame} (hg : g.method = m) (hsize : g.locals.size = c.maxLocals) {ig : Instr} {len : Nat} (hdg : decode c.code g.pc = .ok (ig, len))
    (hW : 2 * g.monitorRoom + (g.stack.map fun v => v.category).sum ≤ 8) {mk : MethodId} (hn : U.methodNamed? y = some mk) {methY : Method} {cY : Code} (hmY : U.vm.method? mk = some methY) (hcY : methY.code = some cY)
    (hini : (Cond.initialized y.cls).before #[] U = true) (hframes : S.room.frames + 1 ≤ R.frames) (hlocals : 8 + (cY.maxLocals + 11) + S.room.locals ≤ R.locals)
    {a : Array Value} (hpre : S.pre.before a U = true) (hcells : cells + S.room.cells ≤ R.cells) (hslots : slots + S.room.slots ≤ R.slots) (hP : ∀ (g' : JFrame) (mk' : MethodId), P a (U.calling g' mk' a))
    (hQ : ∀ (g' : JFrame) (mk' : MethodId) (o : Outcome) (t : State), Q a (U.calling g' mk' a) o t → (U.calling g' mk' a).WarmedH t.vm ∧ ∃ L, (U.calling g' mk' a).sameButNew ({ t with vm := (U.calling g' mk' a).vm } : State) L mc ms ∧ ∀ q ∈ L, Bad q) :
    ∃ (o : Outcome) (t : State) (L : List Loc) (g' : JFrame) (mk' : MethodId), Q a (U.calling g' mk' a) o t ∧ (∀ q ∈ L, Bad q) ∧ Stand p l e R s m args below meth c (am_af U t) (locs ++ L) (cells + mc) (slots + ms) ∧
      match o with
      | .returned v => Steps p.tables e below (doInvoke e (U.setTop g) [] mk a).1 ((am_af U t).setTop { g with pc := g.pc + len, stack := v.toList ++ g.stack })
      | .threw x => Steps p.tables e below (doInvoke e (U.setTop g) [] mk a).1 (((am_af U t).setTop g).pushFrame (.throwing x)) := by
  obtain ⟨kY, hkY, -⟩ := className_of_methodNamed hn
  have hinitY : kY.init = .initialized := Cond.initialized_spec (findClass_of_methodNamed hn) hkY hini
  have h : At U g.method c below := by rw [hg]; exact X.here
  have happ : S.appliesLoose y e.platform (U.calling g mk a) = true :=
    Spec.appliesLoose_calling (g := g) h hdg hn hkY hinitY (X.room_calling (g := g) (R' := S.room) hsize hmY hcY hframes (by omega) hcells hslots) hpre
  obtain ⟨mid, hmid⟩ := h.above
  have hfr : (U.setTop g).frames = (.java g :: mid) ++ below := by rw [State.frames_setTop' g h.top, hmid]; rfl
  obtain ⟨o, t, hsteps, -, hend, hq⟩ := Steps.callFree hM p X.admits X.cas X.clock (acts := []) hfr happ (hP g mk) trivial
  have hq' : Q a (U.calling g mk a) o t := hq
  rw [State.frames_setTop' g h.top] at hend
  obtain ⟨hW2, L, hfe, hL⟩ := hQ g mk o t hq'
  obtain ⟨e2, q2, q3, q4, q5, q6⟩ := id hfe
  have e3 : t = ({ (U.calling g mk a).setFrames t.frames with heap := t.heap, slotsUsed := t.slotsUsed } : State).setVm t.vm := by
    have : t = ({ t with vm := (U.calling g mk a).vm } : State).setVm t.vm := rfl
    rw [e2] at this
    exact this
  have hW' : U.WarmedH t.vm := hW2
  obtain ⟨g0, hg0⟩ := Option.isSome_iff_exists.mp h.top
  obtain ⟨r, hr⟩ := State.topJava?_eq_some.mp hg0
  have hr' : (am_af U t).frames = .java g0 :: r := hr
  have hsame : U.sameButNew ({ U with heap := t.heap, slotsUsed := t.slotsUsed } : State) L mc ms := by
    refine ⟨?_, q2, q3, q4, q5, q6⟩
    obtain ⟨th, hth, -⟩ := State.frames_cons hr
    show ({ U with heap := t.heap, slotsUsed := t.slotsUsed } : State) = { U.setFrames U.frames with heap := t.heap, slotsUsed := t.slotsUsed }
    rw [State.setFrames_self hth]
  have X' : Stand p l e R s m args below meth c (am_af U t) (locs ++ L) (cells + mc) (slots + ms) :=
    ⟨X.admits, X.cas, X.clock, X.frames, X.room, X.hears, X.method, X.code, (X.here.setHeapUsed t.heap t.slotsUsed).setVm hW'.alike, X.tail, State.WarmedH.trans X.warmed hW', X.limits, X.bytes, X.same.trans (hsame.setVm s.vm)⟩
  refine ⟨o, t, L, g, mk, hq', hL, X', ?_⟩
  cases o with
  | returned v =>
    obtain ⟨c2, i2, len2, hc2, hd2, hf2⟩ := hend
    have hcc : c2 = c := by
      have h1 : t.code? g.method = U.code? g.method := by
        rw [State.code?_eq, State.code?_eq, hW'.alike.method?]
      exact Option.some.inj (hc2.symm.trans (h1.trans h.code))
    subst hcc
    have hlen : len2 = len := by rw [hdg] at hd2; cases hd2; rfl
    subst hlen
    have hs2 : t = (am_af U t).setTop { g with pc := g.pc + len2, stack := v.toList ++ g.stack } := by
      refine e3.trans ?_
      rw [hf2, State.calling_eq h.top, State.setFrames_setFrames, State.setTop_of_frames _ hr', hr]
      rfl
    show Steps p.tables e below _ ((am_af U t).setTop _)
    rw [← hs2]
    exact hsteps
  | threw x =>
    have hf2 : t.frames = .throwing x :: .java g :: U.frames.tail := hend
    have hs2 : t = ((am_af U t).setTop g).pushFrame (.throwing x) := by
      refine e3.trans ?_
      rw [hf2, State.calling_eq h.top, State.setFrames_setFrames, State.pushFrame, State.frames_setTop _ hr', State.setTop_of_frames _ hr', State.setFrames_setFrames, hr]
      rfl
    show Steps p.tables e below _ (((am_af U t).setTop g).pushFrame (.throwing x))
    rw [← hs2]
    exact hsteps
/-- the invoking instruction is linked: what remains is the callee's own run -/
def am_Lk (p : Program) (l : Launch) (e : Env) (R : Room) (s : State) (m : MethodId) (args : Array Value) (below : List Frame) (meth : Method) (c : Code) (y : MethodName) (len : Nat) (as rest : List Value) (ls : Array Slot) (pc : Nat) (st : List Value) : Prop :=
  (∃ ig, decode c.code pc = .ok (ig, len)) ∧ ∀ (T : State) (locs : List Loc) (cells slots : Nat), Stand p l e R s m args below meth c T locs cells slots → (∀ b cell, as.head? = some (.ref b) → T.heap[b]? = some cell → True) →
    ∃ (vm' : Vm) (mk : MethodId), s.methodNamed? y = some mk ∧ Stand p l e R s m args below meth c (T.setVm vm') locs cells slots ∧
      ∀ target, (∀ acts, Steps p.tables e below (doInvoke e ((T.setVm vm').setTop (F0 m pc ls rest)) acts mk as.toArray).1 target) → Steps p.tables e below (T.setTop (F0 m pc ls st)) target
end AmCalls
end
section
/-! A walk begun anew where it stands; 'throw new X(message)' there: nothing old is written, one cell comes. No table of this claim is spoken of here. -/
section AmThrows
variable {p : Program} {l : Launch} {e : Env} {R : Room} {s : State} {m : MethodId} {args : Array Value} {below : List Frame} {meth : Method} {c : Code} {T : State} {locs : List Loc} {cells slots : Nat}
theorem am_hears {s U : State} (hvm : s.vm.Alike U.vm) {m : MethodId} {below : List Frame} (h : s.hears m below = true) : U.hears m below = true := by
  have e1 : ∀ k, U.code? k = s.code? k := fun k => by rw [State.code?_eq, State.code?_eq, hvm.method?]
  have e2 : ∀ k, U.vm.method? k = s.vm.method? k := fun k => hvm.method? k
  unfold State.hears at h ⊢
  split at h
  · simp only [e1]
    exact h
  · rfl
  · rfl
  · rename_i h1 h2 h3
    cases below with
    | nil => simp only [e2]; exact h
    | cons f r =>
      cases f <;> first | (exact absurd rfl (h1 _ _)) | (exact absurd rfl (h2 _ _)) | (exact absurd rfl (h3 _ _)) | (simp only [e2]; exact h)
theorem am_rebase (X : Stand p l e R s m args below meth c T locs cells slots) {R' : Room} (h1 : R'.frames ≤ R.frames) (h2 : R'.locals ≤ R.locals) (h3 : cells + R'.cells ≤ R.cells) (h4 : slots + R'.slots ≤ R.slots) :
    Stand p l e R' (T.setFrames (.invoking m args :: below)) m args below meth c T [] 0 0 := by
  obtain ⟨g0, hfr⟩ := X.frames_eq
  have hcur := State.cur_lt_of_frames hfr
  have hF : (T.setFrames (.invoking m args :: below)).frames = .invoking m args :: below := State.frames_setFrames _ hcur
  have hm : (T.setFrames (.invoking m args :: below)).vm.method? m = some meth := X.method'
  obtain ⟨th, hth, -⟩ := State.frames_cons hfr
  obtain ⟨th2, hth2, -⟩ := State.frames_cons hF
  refine ⟨X.admits, X.cas, X.clock, hF, ?_, am_hears (U := T.setFrames (.invoking m args :: below)) X.warmed.alike X.hears, hm, X.code, X.here, X.tail, State.WarmedH.refl (T.setFrames (.invoking m args :: below)), by rw [State.stackLimits_setFrames], by rw [State.stackBytes_setFrames], ?_⟩
  · obtain ⟨r1, r2, r3, r4⟩ := State.hasRoom_stack X.room
    have r5 := State.hasRoom_real X.room
    have h := X.room
    simp only [State.hasRoom, Bool.and_eq_true, decide_eq_true_eq] at h
    rw [State.localsInUse_invoking X.frames X.method X.code] at r3 r4 r5
    rw [X.frames, List.length_cons] at r1 r2
    have hU := State.localsInUse_invoking hF hm X.code
    have z1 := X.heapSize
    have z2 := X.used
    have z3 : (T.setFrames (.invoking m args :: below)).heap.size = T.heap.size := rfl
    have z4 : (T.setFrames (.invoking m args :: below)).slotsUsed = T.slotsUsed := rfl
    have z5 : (T.setFrames (.invoking m args :: below)).slotsTrue = T.slotsTrue := rfl
    simp only [State.hasRoom, Bool.and_eq_true, decide_eq_true_eq, hF, hU, List.length_cons, State.stackLimits_setFrames, State.stackBytes_setFrames, X.limits, X.bytes, z3, z4, z5]
    have y1 := h.1.1.2
    have y2 := h.1.2
    exact ⟨⟨⟨⟨by omega, by omega, by omega, by omega, by omega, h.1.1.1.2.2.2.2.2⟩, by omega⟩, by omega⟩, X.book⟩
  · have hc2 : (T.setFrames (.invoking m args :: below)).cur < (T.setFrames (.invoking m args :: below)).threads.size := State.cur_lt_of_frames hF
    have h := (State.sameButNew.refl (T.setFrames (.invoking m args :: below)) hth2).setFrames T.frames hc2
    rw [State.setFrames_setFrames, State.setFrames_self hth] at h
    exact h
theorem am_kept0 {s u : State} {k n : Nat} (h : s.sameButNew u [] k n) {q : Nat} (hq : q < s.heap.size) : u.heap[q]? = s.heap[q]? := by
  have hc : s.heap[q]? = some s.heap[q] := Array.getElem?_eq_getElem hq
  obtain ⟨c', h1, h2, h3, h4⟩ := h.2.2.2.2.2 q _ hc
  rw [h1, hc, h2]
  congr 1
  have : c'.slots = s.heap[q].slots := by
    apply Array.ext_getElem?
    intro i
    exact h4 i (fun hm => by cases hm)
  rw [this]
theorem am_unframe {A B : State} {F : List Frame} {L : List Loc} {k n : Nat} (h : (A.setFrames F).sameButNew B L k n) : A.sameButNew B L k n := by
  obtain ⟨h1, h2⟩ := h
  refine ⟨?_, h2⟩
  rw [State.setFrames_setFrames] at h1
  exact h1
theorem am_throwNew (X : Stand p l e R s m args below meth c T locs cells slots) (hx : p.tables.exec = Jvm.exec) (htr : e.platform.stackTraces = false) (hlocks : meth.locks = false) {own cls tx : String} {names : List String} {kc kl ic pc : Nat} {ls : Array Slot}
    (hown : s.vm.findClass own = some m.cls) (hcls : Bundle.fit cls = true) (hnames : ∀ n ∈ names, Bundle.fit n = true)
    (hat : ∀ a ∈ Bundle.ownAtoms own ic cls names, a.before args (T.setFrames (.invoking m args :: below)) = true)
    (hcl : (Cond.classLink own kc cls).before args (T.setFrames (.invoking m args :: below)) = true) (hini : (Cond.initialized cls).before args (T.setFrames (.invoking m args :: below)) = true) (hstr : (Cond.stringRef own kl tx).before args (T.setFrames (.invoking m args :: below)) = true)
    (hsize : ls.size = c.maxLocals) (htl : c.exceptionTable.toList = []) (hd0 : decode c.code pc = .ok (.new kc, 3)) (hd3 : decode c.code (pc + 3) = .ok (.dup, 1)) (hd4 : decode c.code (pc + 4) = .ok (.ldc kl, 2)) (hd6 : decode c.code (pc + 6) = .ok (.invokespecial ic, 3)) (hd9 : decode c.code (pc + 9) = .ok (.athrow, 1))
    (hRf : names.length + 3 < R.frames) (hRl : 13 * (names.length + 1) + 50 ≤ R.locals) (hRc : cells + 1 ≤ R.cells) (hRs : slots + 6 ≤ R.slots) :
    ∃ U : State, Steps p.tables e below (T.setTop (F0 m pc ls [])) U ∧ U.status = .running ∧ Ended U below (.threw T.heap.size) ∧ s.WarmedH U.vm ∧ s.sameButNew ({ U with vm := s.vm } : State) locs (cells + 1) (slots + 6) ∧ U.heap.size = T.heap.size + 1 ∧ (∀ q : Nat, q < T.heap.size → U.heap[q]? = T.heap[q]?) ∧
      ∃ ce : Cell, U.heap[T.heap.size]? = some ce ∧ T.vm.findClass cls = some ce.cls ∧ ce.vm = .none := by
  have X0 := am_rebase (R' := { frames := R.frames, cells := 1, slots := 6, locals := R.locals }) X (Nat.le_refl _) (Nat.le_refl _) hRc hRs
  have hown' : (T.setFrames (.invoking m args :: below)).vm.findClass own = some m.cls := by
    show T.vm.findClass own = some m.cls
    rw [X.warmed.alike.findClass]
    exact hown
  obtain ⟨vm1, cX, kX, hfX, hkX, -, -, X1, st1⟩ := X0.newCold hx (own := own) (C := cls) (index := kc) (n := 6) hown' hcl (hat (.instantiable cls 6) (by simp [Bundle.ownAtoms])) hini (g := F0 m pc ls []) rfl hd0 (Nat.le_refl _) (Nat.le_refl _)
  generalize hT2 : (T.setVm vm1).pushCell { cls := cX, slots := kX.instanceTypes.map defaultValue, vm := .none } = T2 at X1 st1
  have hcellA : T2.heap[T.heap.size]? = some (freshCell cX kX) := by rw [← hT2]; exact State.heap_pushCell_size _ _
  obtain ⟨-, -, -, sa, -, -, -, -, -, hev⟩ := Cond.stringRef_spec hown' hstr
  obtain ⟨U, hsteps, hrun, hend, hW, hsame, ce, hce, K⟩ := X1.ctorThrowS hx htr (own := own) (cls := cls) (names := names) (ic := ic) hown' hcls hnames hat (fun y hy => by cases hy) hfX hkX hcellA (Nat.le_refl _) (msg := .ref sa) rfl
    (g := F0 m (pc + 6) ls [.ref sa, .ref T.heap.size, .ref T.heap.size]) rfl hsize rfl rfl (rest := []) rfl hd6 hd9 (fun x hx => by rw [htl] at hx; cases hx) hRf (by show 2 * 0 + 1 + _ ≤ R.locals; omega)
  have hsz : (T.setFrames (.invoking m args :: below)).heap.size = T.heap.size := rfl
  refine ⟨U, ?_, hrun, hend, State.WarmedH.trans X.warmed hW, ?_, ?_, ?_, ce, hce, K.cls, K.vm⟩
  · refine st1 _ ?_
    show Steps p.tables e below (T2.setTop (F0 m (pc + 3) ls [.ref T.heap.size])) _
    jvm_step X1.here [X1.here.top, hx, hd3, Value.category]
    exact X1.ldcString hx (own := own) (text := tx) (index := kl) (a := sa) hown' hstr hev (g := F0 m (pc + 4) ls [.ref T.heap.size, .ref T.heap.size]) rfl hd4 _ hsteps
  · have h2 : T.sameButNew ({ U with vm := T.vm } : State) [] (0 + 1) (0 + 6) := am_unframe hsame
    have h3 := X.same.trans (h2.setVm s.vm)
    rw [List.append_nil] at h3
    exact h3
  · have h2 := hsame.2.2.1
    have h3 := (Array.getElem?_eq_some_iff.mp hce).1
    simp only [hsz] at h2
    omega
  · intro q hq
    exact am_kept0 hsame (q := q) (by rw [hsz]; exact hq)
end AmThrows
end
section
/-! What follows from the tables' lists. -/
def am_ty (t : Nat) : FieldType := match t with
  | 0 => .int
  | 1 => .char
  | 2 => .byte
  | 3 => .long
  | t + 4 => .object (am_en (t + 4))
theorem am_ty_obj {t : Nat} (h : 4 ≤ t) : am_ty t = .object (am_en t) := by
  obtain ⟨k, rfl⟩ := Nat.exists_eq_add_of_le h
  rw [Nat.add_comm]
  rfl
theorem am_ty_ref {t : Nat} (h : 4 ≤ t) : (am_ty t).isReference = true := by
  rw [am_ty_obj h]
  rfl
def am_idx (f : Nat) : List Nat → Option Nat
  | [] => none
  | g :: r => if g = f then some 0 else (am_idx f r).map (fun k => k + 1)
theorem am_idx_ok {f : Nat} : ∀ {l : List Nat} {k : Nat}, am_idx f l = some k → l[k]? = some f := by
  intro l
  induction l with
  | nil => intro k h; cases h
  | cons g r ih =>
    intro k h
    rw [am_idx] at h
    split at h
    · rename_i hg
      cases h
      rw [hg]
      rfl
    · cases hr : am_idx f r with
      | none => rw [hr] at h; cases h
      | some j =>
        rw [hr] at h
        simp only [Option.map_some, Option.some.injEq] at h
        subst h
        exact ih hr
/-- the place of a field among its class's fields -/
def am_pos (ci f : Nat) : Option Nat := am_idx f (am_lay ci)
theorem am_pos_ok {ci f k : Nat} (h : am_pos ci f = some k) : (am_lay ci)[k]? = some f := am_idx_ok h
/-- the fields of a new object -/
def am_new (ci : Nat) : Option (List Value) := if am_own ci = true then some ((am_lay ci).map (fun f => defaultValue (am_fty f))) else none
theorem am_new_ok {ci k f : Nat} {fs : List Value} {v : Value} (h : am_new ci = some fs) (hk : (am_lay ci)[k]? = some f) (hv : fs[k]? = some v) : v = defaultValue (am_fty f) := by
  unfold am_new at h
  split at h
  · cases h
    rw [List.getElem?_map, hk] at hv
    cases hv
    rfl
  · cases h
end
section
/-! A small machine over the same instructions: numbers for addresses, lists for cells. Its tables (am_code, am_stat, am_pos, am_fty, am_new, am_gst, am_lc, am_tgt, am_arg, am_ent, am_hnd, am_cast) are printed by a program of mine, ahead of this part. An address below 1000 is a cell that stood at the start (am_stat), one from 1000 on is a cell that was made since. -/
def am_at (h : am_H) (k : Nat) : Option am_C := if k < 1000 then am_stat[k]? else h[k - 1000]?
def am_ld (lv : am_L) (i : Nat) : Option Value := match lv[i]? with
  | some (some v) => some v
  | _ => none
def am_isL (v : Option (Option Value)) : Bool := match v with
  | some (some (.long _)) => true
  | some (some (.double _)) => true
  | _ => false
/-- no long stands right ahead of place i -/
def am_fr (lv : am_L) (i : Nat) : Bool := match i with
  | 0 => true
  | j + 1 => !am_isL lv[j]?
def am_s1 (lv : am_L) (i : Nat) (v : Value) : Option am_L := if i < lv.length ∧ am_fr lv i = true then some (lv.set i (some v)) else none
def am_s2 (lv : am_L) (i : Nat) (v : Value) : Option am_L := if i + 1 < lv.length ∧ am_fr lv i = true then some ((lv.set i (some v)).set (i + 1) none) else none
/-- constants and loads: the value that is pushed -/
def am_push (mi : Nat) (i : Instr) (lv : am_L) : Option Value := match i with
  | .iconst n => some (.int (Int32.ofInt n))
  | .bipush n => some (.int (Int8.ofInt n).toInt32)
  | .sipush n => some (.int (Int16.ofInt n).toInt32)
  | .lconst n => some (.long (Int64.ofNat n.val))
  | .aconst_null => some .null
  | .ldc2_w k => (am_lc mi k).map Value.long
  | .iload k => match am_ld lv k with
    | some (.int x) => some (.int x)
    | _ => none
  | .iload_n k => match am_ld lv k.val with
    | some (.int x) => some (.int x)
    | _ => none
  | .lload k => match am_ld lv k with
    | some (.long x) => some (.long x)
    | _ => none
  | .lload_n k => match am_ld lv k.val with
    | some (.long x) => some (.long x)
    | _ => none
  | .aload k => match am_ld lv k with
    | some (.ref x) => some (.ref x)
    | some .null => some .null
    | _ => none
  | .aload_n k => match am_ld lv k.val with
    | some (.ref x) => some (.ref x)
    | some .null => some .null
    | _ => none
  | _ => none
/-- stores into locals -/
def am_sto (i : Instr) (lv : am_L) (st : List Value) : Option (am_L × List Value) := match i with
  | .istore k => match st with
    | .int x :: r => (am_s1 lv k (.int x)).map (fun l => (l, r))
    | _ => none
  | .istore_n k => match st with
    | .int x :: r => (am_s1 lv k.val (.int x)).map (fun l => (l, r))
    | _ => none
  | .lstore k => match st with
    | .long x :: r => (am_s2 lv k (.long x)).map (fun l => (l, r))
    | _ => none
  | .lstore_n k => match st with
    | .long x :: r => (am_s2 lv k.val (.long x)).map (fun l => (l, r))
    | _ => none
  | .astore k => match st with
    | .ref x :: r => (am_s1 lv k (.ref x)).map (fun l => (l, r))
    | .null :: r => (am_s1 lv k .null).map (fun l => (l, r))
    | _ => none
  | .astore_n k => match st with
    | .ref x :: r => (am_s1 lv k.val (.ref x)).map (fun l => (l, r))
    | .null :: r => (am_s1 lv k.val .null).map (fun l => (l, r))
    | _ => none
  | .iinc k n => match am_ld lv k with
    | some (.int x) => (am_s1 lv k (.int (x + Int32.ofInt n))).map (fun l => (l, st))
    | _ => none
  | _ => none
/-- arithmetic and the stack -/
def am_ari (i : Instr) (st : List Value) : Option (List Value) := match i with
  | .iadd => match st with
    | .int y :: .int x :: r => some (.int (x + y) :: r)
    | _ => none
  | .isub => match st with
    | .int y :: .int x :: r => some (.int (x - y) :: r)
    | _ => none
  | .imul => match st with
    | .int y :: .int x :: r => some (.int (x * y) :: r)
    | _ => none
  | .iand => match st with
    | .int y :: .int x :: r => some (.int (x &&& y) :: r)
    | _ => none
  | .ior => match st with
    | .int y :: .int x :: r => some (.int (x ||| y) :: r)
    | _ => none
  | .ixor => match st with
    | .int y :: .int x :: r => some (.int (x ^^^ y) :: r)
    | _ => none
  | .idiv => match st with
    | .int y :: .int x :: r => if y = 0 then none else some (.int (x / y) :: r)
    | _ => none
  | .irem => match st with
    | .int y :: .int x :: r => if y = 0 then none else some (.int (x - x / y * y) :: r)
    | _ => none
  | .ineg => match st with
    | .int x :: r => some (.int (-x) :: r)
    | _ => none
  | .ishl => match st with
    | .int y :: .int x :: r => some (.int (x <<< (y &&& 31)) :: r)
    | _ => none
  | .ishr => match st with
    | .int y :: .int x :: r => some (.int (x >>> (y &&& 31)) :: r)
    | _ => none
  | .i2c => match st with
    | .int x :: r => some (.int (x.toUInt32 % 65536).toInt32 :: r)
    | _ => none
  | .i2l => match st with
    | .int x :: r => some (.long x.toInt64 :: r)
    | _ => none
  | .l2i => match st with
    | .long x :: r => some (.int x.toInt32 :: r)
    | _ => none
  | .ladd => match st with
    | .long y :: .long x :: r => some (.long (x + y) :: r)
    | _ => none
  | .lmul => match st with
    | .long y :: .long x :: r => some (.long (x * y) :: r)
    | _ => none
  | .ldiv => match st with
    | .long y :: .long x :: r => if y = 0 then none else some (.long (x / y) :: r)
    | _ => none
  | .lrem => match st with
    | .long y :: .long x :: r => if y = 0 then none else some (.long (x - x / y * y) :: r)
    | _ => none
  | .lcmp => match st with
    | .long y :: .long x :: r => some (.int (lg_cmp x y) :: r)
    | _ => none
  | .dup => match st with
    | v :: r => if v.category = 1 then some (v :: v :: r) else none
    | _ => none
  | .pop => match st with
    | v :: r => if v.category = 1 then some r else none
    | _ => none
  | .dup2 => match st with
    | v :: w :: r => if v.category = 1 ∧ w.category = 1 then some (v :: w :: v :: w :: r) else none
    | _ => none
  | .dup_x1 => match st with
    | v :: w :: r => if v.category = 1 ∧ w.category = 1 then some (v :: w :: v :: r) else none
    | _ => none
  | _ => none
/-- the calls of Object.<init> (.monitorenter in the tables) and of String.checkIndex (.monitorexit), of Math.max (.dup_x2), min (.dup2_x1), abs (.swap) -/
def am_spc (i : Instr) (st : List Value) : Option (List Value) := match i with
  | .monitorenter => match st with
    | .ref _ :: r => if (r.map fun v => v.category).sum ≤ 8 then some r else none
    | _ => none
  | .monitorexit => match st with
    | .int n :: .int k :: r => if 0 ≤ k ∧ k < n ∧ (r.map fun v => v.category).sum ≤ 8 then some r else none
    | _ => none
  | .dup_x2 => match st with
    | .int y :: .int x :: r => if (r.map fun v => v.category).sum ≤ 8 then some (.int (if x < y then y else x) :: r) else none
    | _ => none
  | .dup2_x1 => match st with
    | .int y :: .int x :: r => if (r.map fun v => v.category).sum ≤ 8 then some (.int (if y < x then y else x) :: r) else none
    | _ => none
  | .swap => match st with
    | .int x :: r => if (r.map fun v => v.category).sum ≤ 8 then some (.int (if 0 ≤ x then x else 0 - x) :: r) else none
    | _ => none
  | _ => none
/-- references to the law's words and to cells that were made since, as lv_acmp has them -/
def am_rf (h : am_H) (v : Value) : Option (Option Nat) := match v with
  | .ref a => if (am_at h a).isSome = true ∧ (a < 38 ∨ 1001 ≤ a) then some (some a) else none
  | .null => some none
  | _ => none
/-- branches: where to, and what is left of the stack (targets are absolute here) -/
def am_br (i : Instr) (nx : Nat) (st : List Value) (h : am_H) : Option (Nat × List Value) := match i with
  | .goto t => some (t.toNat, st)
  | .ifCond c t => match st with
    | .int x :: r => some (match c with
      | .eq => if x = 0 then t.toNat else nx
      | .ne => if ¬ x = 0 then t.toNat else nx
      | .lt => if x < 0 then t.toNat else nx
      | .ge => if 0 ≤ x then t.toNat else nx
      | .gt => if 0 < x then t.toNat else nx
      | .le => if x ≤ 0 then t.toNat else nx, r)
    | _ => none
  | .if_icmp c t => match st with
    | .int y :: .int x :: r => some (match c with
      | .eq => if x = y then t.toNat else nx
      | .ne => if ¬ x = y then t.toNat else nx
      | .lt => if x < y then t.toNat else nx
      | .ge => if y ≤ x then t.toNat else nx
      | .gt => if y < x then t.toNat else nx
      | .le => if x ≤ y then t.toNat else nx, r)
    | _ => none
  | .if_acmp c t => match st with
    | w :: v :: r => match am_rf h v, am_rf h w with
      | some x, some y => some (match c with
        | .eq => if x = y then t.toNat else nx
        | .ne => if ¬ x = y then t.toNat else nx, r)
      | _, _ => none
    | _ => none
  | .ifnull t => match st with
    | .null :: r => some (t.toNat, r)
    | .ref _ :: r => some (nx, r)
    | _ => none
  | .ifnonnull t => match st with
    | .null :: r => some (nx, r)
    | .ref _ :: r => some (t.toNat, r)
    | _ => none
  | .tableswitch d lo hi ts => match st with
    | .int x :: r => if x.toInt < lo ∨ hi < x.toInt then some (d.toNat, r) else (ts[(x.toInt - lo).toNat]?).map (fun t => (t.toNat, r))
    | _ => none
  | .lookupswitch d ps => match st with
    | .int x :: r => some ((Op.lookupswitch.offset ps.toList d x.toInt).toNat, r)
    | _ => none
  | _ => none
/-- the place i of a row of n -/
def am_ix (i : Int32) (n : Nat) : Bool := decide (¬ (i < 0 ∨ n ≤ i.toNatClampNeg))
/-- an element of an array of numbers of the kind t (0 int, 1 char, 2 byte, 3 long) -/
def am_el (t : Nat) (st : List Value) (h : am_H) : Option (List Value) := match st with
  | .int j :: .ref a :: r => match am_at h a with
    | some (.inr (t', xs)) => if t' = t ∧ am_ix j xs.length = true then (xs[j.toNatClampNeg]?).map (fun v => v :: r) else none
    | _ => none
  | _ => none
/-- reads of cells: (what is pushed, what is left) -/
def am_rd (mi : Nat) (i : Instr) (st : List Value) (h : am_H) : Option (List Value) := match i with
  | .arraylength => match st with
    | .ref a :: r => match am_at h a with
      | some (.inr (_, xs)) => some (.int (Int32.ofNat xs.length) :: r)
      | _ => none
    | _ => none
  | .iaload => am_el 0 st h
  | .caload => am_el 1 st h
  | .baload => am_el 2 st h
  | .laload => am_el 3 st h
  | .aaload => match st with
    | .int j :: .ref a :: r => match am_at h a with
      | some (.inr (t, xs)) => if 4 ≤ t ∧ am_ix j xs.length = true then (xs[j.toNatClampNeg]?).map (fun v => v :: r) else none
      | _ => none
    | _ => none
  | .getfield f => match st with
    | .ref a :: r => match am_at h a with
      | some (.inl (ci, fs)) => match am_pos ci f with
        | some k => (fs[k]?).map (fun v => v :: r)
        | none => none
      | _ => none
    | _ => none
  | .getstatic f => (am_gst f).map (fun v => v :: st)
  | _ => none
/-- a cell is written anew -/
def am_set (h : am_H) (a : Nat) (c : am_C) : Option am_H := if 1001 ≤ a ∧ a - 1000 < h.length then some (h.set (a - 1000) c) else none
/-- does the value fit an array of the kind t -/
def am_ok (t : Nat) (v : Value) (h : am_H) : Bool := match v with
  | .int x => t == 0 || (t == 1 && decide (0 ≤ x) && decide (x ≤ 65535))
  | .long _ => t == 3
  | .null => decide (4 ≤ t)
  | .ref b => match am_at h b with
    | some (.inl (ci, _)) => decide (4 ≤ t) && am_cast ci t
    | _ => false
  | _ => false
def am_kind (i : Instr) : Option Nat := match i with
  | .iastore => some 0
  | .castore => some 1
  | .lastore => some 3
  | .aastore => some 4
  | _ => none
/-- writes of cells -/
def am_wr (mi : Nat) (i : Instr) (st : List Value) (h : am_H) : Option (List Value × am_H) := match i with
  | .putfield f => match st with
    | v :: .ref a :: r => match am_at h a with
      | some (.inl (ci, fs)) => match am_pos ci f with
        | some k => if k < fs.length ∧ fits (am_fty f) v = true ∧ (am_fin f = true → am_ini mi = true) then (am_set h a (.inl (ci, fs.set k v))).map (fun h' => (r, h')) else none
        | none => none
      | _ => none
    | _ => none
  | _ => match am_kind i with
    | none => none
    | some k => match st with
      | v :: .int j :: .ref a :: r => match am_at h a with
        | some (.inr (t, xs)) => if (t = k ∨ (k = 4 ∧ 4 ≤ t)) ∧ am_ix j xs.length = true ∧ am_ok t v h = true then (am_set h a (.inr (t, xs.set j.toNatClampNeg v))).map (fun h' => (r, h')) else none
        | _ => none
      | _ => none
/-- new cells -/
def am_mk (i : Instr) (st : List Value) : Option (List Value × am_C) := match i with
  | .new ci => (am_new ci).map (fun fs => (st, .inl (ci, fs)))
  | .newarray t => match st with
    | .int n :: r => if ¬ n < 0 ∧ n.toNatClampNeg ≤ 65536 then match t with
      | .int => some (r, .inr (0, List.replicate n.toNatClampNeg (.int 0)))
      | .char => some (r, .inr (1, List.replicate n.toNatClampNeg (.int 0)))
      | .long => some (r, .inr (3, List.replicate n.toNatClampNeg (.long 0)))
      | _ => none else none
    | _ => none
  | .anewarray t => match st with
    | .int n :: r => if ¬ n < 0 ∧ n.toNatClampNeg ≤ 65536 ∧ 4 ≤ t then some (r, .inr (t, List.replicate n.toNatClampNeg .null)) else none
    | _ => none
  | _ => none
/-- one instruction that neither calls nor returns nor throws -/
def am_one (mi : Nat) (i : Instr) (len pc : Nat) (lv : am_L) (st : List Value) (h : am_H) : Option am_S :=
  match am_push mi i lv with
  | some v => some (pc + len, lv, v :: st, h)
  | none => match am_sto i lv st with
    | some (lv', st') => some (pc + len, lv', st', h)
    | none => match am_ari i st with
      | some st' => some (pc + len, lv, st', h)
      | none => match am_br i (pc + len) st h with
        | some (pc', st') => some (pc', lv, st', h)
        | none => match am_rd mi i st h with
          | some st' => some (pc + len, lv, st', h)
          | none => match am_wr mi i st h with
            | some (st', h') => some (pc + len, lv, st', h')
            | none => match am_mk i st with
              | some (st', c) => some (pc + len, lv, .ref (1000 + h.length) :: st', h ++ [c])
              | none => match am_spc i st with
                | some st' => some (pc + len, lv, st', h)
                | none => none
/-- the end of a method -/
def am_ret (mi : Nat) (i : Instr) (st : List Value) : Option (Option Value) := match i with
  | .return_ => match st with
    | [] => match am_mr mi with
      | none => some none
      | some _ => none
    | _ => none
  | .ireturn => match st with
    | [.int x] => match am_mr mi with
      | some ty => if fits ty (.int x) = true then some (some (.int x)) else none
      | none => none
    | _ => none
  | .areturn => match st with
    | [v] => match am_mr mi with
      | some ty => if ty.isReference = true ∧ fits ty v = true then some (some v) else none
      | none => none
    | _ => none
  | _ => none
/-- the locals with which a method begins -/
def am_sl (as : List Value) : am_L := as.flatMap fun v => if v.category = 2 then [some v, none] else [some v]
def am_ent (mj : Nat) (as : List Value) : am_L := am_sl as ++ List.replicate (am_ml mj - (am_sl as).length) none
/-- a callee can be entered -/
def am_fit (mj : Nat) (as r : List Value) : Bool := am_okm mj && decide ((am_sl as).length ≤ am_ml mj) && decide ((r.map fun v => v.category).sum ≤ 8)
/-- a call site: the callee, its arguments, what is left of the stack -/
def am_inv (i : Instr) (st : List Value) (h : am_H) : Option (Nat × List Value × List Value) :=
  match (match i with
    | .invokevirtual x => some x
    | .invokestatic x => some x
    | .invokespecial x => some x
    | .invokeinterface x _ => some x
    | _ => none) with
  | none => none
  | some x => match am_arg x with
    | none => none
    | some (n, stat) => if n ≤ st.length then
        (if stat = true then match am_tgt x 0 with
          | some mj => if am_fit mj (st.take n).reverse (st.drop n) = true then some (mj, (st.take n).reverse, st.drop n) else none
          | none => none
        else match (st.take n).reverse with
          | .ref a :: _ => match am_at h a with
            | some (.inl (ci, _)) => match am_tgt x ci with
              | some mj => if am_fit mj (st.take n).reverse (st.drop n) = true then some (mj, (st.take n).reverse, st.drop n) else none
              | none => none
            | _ => none
          | _ => none) else none
/-- where a thrown object is caught -/
def am_hx (mi pc : Nat) (h : am_H) (a : Nat) : Option Nat := match am_at h a with
  | some (.inl (ci, _)) => am_hnd mi pc ci
  | _ => none
/-- 'throw new X(message)': it stands as one instruction in the tables -/
def am_thr (mi : Nat) (i : Instr) (st : List Value) : Option Nat := match i with
  | .instanceof x => match st with
    | [] => if am_noh mi = true then some x else none
    | _ => none
  | _ => none
/-- the machine: n steps at most, d calls deep at most -/
def am_run : Nat → Nat → Nat → Nat → am_L → List Value → am_H → Option (am_O × am_H)
  | 0, _, _, _, _, _, _ => none
  | n + 1, d, mi, pc, lv, st, h => match am_code mi pc with
    | none => none
    | some (i, len) => match am_ret mi i st with
      | some v => some (.inl v, h)
      | none => match am_thr mi i st with
        | some x => some (.inr (1000 + h.length), h ++ [.inl (x, [])])
        | none => match am_inv i st h with
          | some (mj, as, r) => match d with
            | 0 => none
            | d' + 1 => match am_run n d' mj 0 (am_ent mj as) [] h with
              | none => none
              | some (.inl v, h') => am_run n (d' + 1) mi (pc + len) lv (v.toList ++ r) h'
              | some (.inr a, h') => match am_hx mi pc h' a with
                | some pc' => am_run n (d' + 1) mi pc' lv [.ref a] h'
                | none => if am_noh mi = true then some (.inr a, h') else none
          | none => match am_one mi i len pc lv st h with
            | some (pc', lv', st', h') => am_run n d mi pc' lv' st' h'
            | none => none
/-- it comes to this end -/
def am_R (d mi pc : Nat) (lv : am_L) (st : List Value) (h : am_H) (o : am_O) (h' : am_H) : Prop := ∃ n, am_run n d mi pc lv st h = some (o, h')
end
section
/-! Rules of the small machine: more steps and more depth do no harm; a step, a call, an end. -/
theorem am_zero (d mi pc : Nat) (lv : am_L) (st : List Value) (h : am_H) : am_run 0 d mi pc lv st h = none := by
  cases d <;> rfl
theorem am_succ (n d mi pc : Nat) (lv : am_L) (st : List Value) (h : am_H) : am_run (n + 1) d mi pc lv st h = (match am_code mi pc with
    | none => none
    | some (i, len) => match am_ret mi i st with
      | some v => some (.inl v, h)
      | none => match am_thr mi i st with
        | some x => some (.inr (1000 + h.length), h ++ [.inl (x, [])])
        | none => match am_inv i st h with
          | some (mj, as, r) => match d with
            | 0 => none
            | d' + 1 => match am_run n d' mj 0 (am_ent mj as) [] h with
              | none => none
              | some (.inl v, h') => am_run n (d' + 1) mi (pc + len) lv (v.toList ++ r) h'
              | some (.inr a, h') => match am_hx mi pc h' a with
                | some pc' => am_run n (d' + 1) mi pc' lv [.ref a] h'
                | none => if am_noh mi = true then some (.inr a, h') else none
          | none => match am_one mi i len pc lv st h with
            | some (pc', lv', st', h') => am_run n d mi pc' lv' st' h'
            | none => none) := by
  rfl
theorem am_up : ∀ (n d mi pc : Nat) (lv : am_L) (st : List Value) (h : am_H) (q : am_O × am_H), am_run n d mi pc lv st h = some q → am_run (n + 1) d mi pc lv st h = some q ∧ am_run (n + 1) (d + 1) mi pc lv st h = some q := by
  intro n
  induction n with
  | zero =>
    intro d mi pc lv st h q hr
    rw [am_zero] at hr
    cases hr
  | succ n ih =>
    intro d mi pc lv st h q hr
    rw [am_succ] at hr
    rw [am_succ (n + 1) d, am_succ (n + 1) (d + 1)]
    cases hc : am_code mi pc with
    | none => rw [hc] at hr; cases hr
    | some z =>
      obtain ⟨i, len⟩ := z
      simp only [hc] at hr ⊢
      cases h1 : am_ret mi i st with
      | some v => simp only [h1] at hr ⊢; exact ⟨hr, hr⟩
      | none =>
        simp only [h1] at hr ⊢
        cases h2 : am_thr mi i st with
        | some x => simp only [h2] at hr ⊢; exact ⟨hr, hr⟩
        | none =>
          simp only [h2] at hr ⊢
          cases h3 : am_inv i st h with
          | some z =>
            obtain ⟨mj, as, r⟩ := z
            simp only [h3] at hr ⊢
            cases d with
            | zero => cases hr
            | succ d' =>
              simp only at hr ⊢
              cases h4 : am_run n d' mj 0 (am_ent mj as) [] h with
              | none => rw [h4] at hr; cases hr
              | some z =>
                obtain ⟨o, h'⟩ := z
                rw [(ih _ _ _ _ _ _ _ h4).1, (ih _ _ _ _ _ _ _ h4).2]
                simp only [h4] at hr
                cases o with
                | inl v => exact ih _ _ _ _ _ _ _ hr
                | inr a =>
                  simp only at hr ⊢
                  cases h5 : am_hx mi pc h' a with
                  | some pc' => simp only [h5] at hr ⊢; exact ih _ _ _ _ _ _ _ hr
                  | none => simp only [h5] at hr ⊢; exact ⟨hr, hr⟩
          | none =>
            simp only [h3] at hr ⊢
            cases h4 : am_one mi i len pc lv st h with
            | none => rw [h4] at hr; cases hr
            | some z =>
              obtain ⟨pc', lv', st', h'⟩ := z
              simp only [h4] at hr ⊢
              exact ih _ _ _ _ _ _ _ hr
theorem am_more {n d mi pc : Nat} {lv : am_L} {st : List Value} {h : am_H} {q : am_O × am_H} (k : Nat) (hr : am_run n d mi pc lv st h = some q) : am_run (n + k) d mi pc lv st h = some q := by
  induction k with
  | zero => exact hr
  | succ k ih => exact (am_up _ _ _ _ _ _ _ _ ih).1
theorem am_R.deep {d mi pc : Nat} {lv : am_L} {st : List Value} {h h' : am_H} {o : am_O} (k : Nat) (hr : am_R d mi pc lv st h o h') : am_R (d + k) mi pc lv st h o h' := by
  induction k with
  | zero => exact hr
  | succ k ih =>
    obtain ⟨n, hn⟩ := ih
    exact ⟨n + 1, (am_up _ _ _ _ _ _ _ _ hn).2⟩
/-- one step that neither calls nor ends -/
def am_nx (mi pc : Nat) (lv : am_L) (st : List Value) (h : am_H) : Option am_S := match am_code mi pc with
  | none => none
  | some (i, len) => match am_ret mi i st with
    | some _ => none
    | none => match am_thr mi i st with
      | some _ => none
      | none => match am_inv i st h with
        | some _ => none
        | none => am_one mi i len pc lv st h
theorem am_R.nx {d mi pc pc' : Nat} {lv lv' : am_L} {st st' : List Value} {h h1 h' : am_H} {o : am_O} (e : am_nx mi pc lv st h = some (pc', lv', st', h1)) (k : am_R d mi pc' lv' st' h1 o h') : am_R d mi pc lv st h o h' := by
  obtain ⟨n, hn⟩ := k
  refine ⟨n + 1, ?_⟩
  rw [am_succ]
  unfold am_nx at e
  cases hc : am_code mi pc with
  | none => rw [hc] at e; cases e
  | some z =>
    obtain ⟨i, len⟩ := z
    simp only [hc] at e ⊢
    cases h1 : am_ret mi i st with
    | some v => rw [h1] at e; cases e
    | none =>
      simp only [h1] at e ⊢
      cases h2 : am_thr mi i st with
      | some x => rw [h2] at e; cases e
      | none =>
        simp only [h2] at e ⊢
        cases h3 : am_inv i st h with
        | some z => rw [h3] at e; cases e
        | none =>
          simp only [h3] at e ⊢
          rw [e]
          exact hn
/-- several such steps at once -/
def am_nxs : Nat → Nat → Nat → am_L → List Value → am_H → Option am_S
  | 0, _, pc, lv, st, h => some (pc, lv, st, h)
  | k + 1, mi, pc, lv, st, h => match am_nx mi pc lv st h with
    | some (pc', lv', st', h') => am_nxs k mi pc' lv' st' h'
    | none => none
theorem am_R.nxs {d mi : Nat} {o : am_O} {h' : am_H} : ∀ (k : Nat) {pc pc' : Nat} {lv lv' : am_L} {st st' : List Value} {h h1 : am_H}, am_nxs k mi pc lv st h = some (pc', lv', st', h1) → am_R d mi pc' lv' st' h1 o h' → am_R d mi pc lv st h o h' := by
  intro k
  induction k with
  | zero =>
    intro pc pc' lv lv' st st' h h1 e r
    cases e
    exact r
  | succ k ih =>
    intro pc pc' lv lv' st st' h h1 e r
    rw [am_nxs] at e
    cases h4 : am_nx mi pc lv st h with
    | none => rw [h4] at e; cases e
    | some z =>
      obtain ⟨p2, l2, s2, g2⟩ := z
      rw [h4] at e
      exact am_R.nx h4 (ih e r)
/-- the end of a method -/
theorem am_R.ret {d mi pc len : Nat} {lv : am_L} {st : List Value} {h : am_H} {i : Instr} {v : Option Value} (hc : am_code mi pc = some (i, len)) (e : am_ret mi i st = some v) : am_R d mi pc lv st h (.inl v) h := by
  refine ⟨1, ?_⟩
  rw [am_succ, hc]
  simp only [e]
theorem am_R.thr {d mi pc len x : Nat} {lv : am_L} {st : List Value} {h : am_H} {i : Instr} (hc : am_code mi pc = some (i, len)) (h1 : am_ret mi i st = none) (e : am_thr mi i st = some x) : am_R d mi pc lv st h (.inr (1000 + h.length)) (h ++ [.inl (x, [])]) := by
  refine ⟨1, ?_⟩
  rw [am_succ, hc]
  simp only [h1, e]
/-- the call at pc: callee, arguments, the rest of the stack, the length of the instruction -/
def am_cl (mi pc : Nat) (st : List Value) (h : am_H) : Option (Nat × List Value × List Value × Nat) := match am_code mi pc with
  | none => none
  | some (i, len) => match am_ret mi i st with
    | some _ => none
    | none => match am_thr mi i st with
      | some _ => none
      | none => (am_inv i st h).map (fun z => (z.1, z.2.1, z.2.2, len))
theorem am_cl_spec {mi pc mj len : Nat} {st as r : List Value} {h : am_H} (e : am_cl mi pc st h = some (mj, as, r, len)) : ∃ i, am_code mi pc = some (i, len) ∧ am_ret mi i st = none ∧ am_thr mi i st = none ∧ am_inv i st h = some (mj, as, r) := by
  unfold am_cl at e
  cases hc : am_code mi pc with
  | none => rw [hc] at e; cases e
  | some z =>
    obtain ⟨i, l2⟩ := z
    simp only [hc] at e
    cases h1 : am_ret mi i st with
    | some v => rw [h1] at e; cases e
    | none =>
      simp only [h1] at e
      cases h2 : am_thr mi i st with
      | some x => rw [h2] at e; cases e
      | none =>
        simp only [h2] at e
        cases h3 : am_inv i st h with
        | none => rw [h3] at e; cases e
        | some z =>
          obtain ⟨a1, a2, a3⟩ := z
          rw [h3] at e
          simp only [Option.map_some, Option.some.injEq, Prod.mk.injEq] at e
          obtain ⟨rfl, rfl, rfl, rfl⟩ := e
          exact ⟨i, rfl, h1, h2, h3⟩
/-- a call that returns -/
theorem am_R.call {d mi pc mj len : Nat} {lv : am_L} {st as r : List Value} {h h1 h' : am_H} {o : am_O} {v : Option Value} (e : am_cl mi pc st h = some (mj, as, r, len)) (c : am_R d mj 0 (am_ent mj as) [] h (.inl v) h1) (k : am_R (d + 1) mi (pc + len) lv (v.toList ++ r) h1 o h') : am_R (d + 1) mi pc lv st h o h' := by
  obtain ⟨i, hc, e1, e2, e3⟩ := am_cl_spec e
  obtain ⟨n1, c⟩ := c
  obtain ⟨n2, k⟩ := k
  refine ⟨n1 + n2 + 1, ?_⟩
  rw [am_succ, hc]
  simp only [e1, e2, e3]
  rw [am_more n2 c]
  simp only
  rw [Nat.add_comm n1 n2]
  exact am_more n1 k
/-- a call that throws, and is not caught here -/
theorem am_R.pass {d mi pc mj len a : Nat} {lv : am_L} {st as r : List Value} {h h1 : am_H} (e : am_cl mi pc st h = some (mj, as, r, len)) (c : am_R d mj 0 (am_ent mj as) [] h (.inr a) h1) (hh : am_hx mi pc h1 a = none) (hn : am_noh mi = true) : am_R (d + 1) mi pc lv st h (.inr a) h1 := by
  obtain ⟨i, hc, e1, e2, e3⟩ := am_cl_spec e
  obtain ⟨n1, c⟩ := c
  refine ⟨n1 + 1, ?_⟩
  rw [am_succ, hc]
  simp only [e1, e2, e3]
  rw [c]
  simp only [hh, hn, if_true]
/-- a call that throws, and is caught here -/
theorem am_R.catch {d mi pc pc' mj len a : Nat} {lv : am_L} {st as r : List Value} {h h1 h' : am_H} {o : am_O} (e : am_cl mi pc st h = some (mj, as, r, len)) (c : am_R d mj 0 (am_ent mj as) [] h (.inr a) h1) (hh : am_hx mi pc h1 a = some pc') (k : am_R (d + 1) mi pc' lv [.ref a] h1 o h') : am_R (d + 1) mi pc lv st h o h' := by
  obtain ⟨i, hc, e1, e2, e3⟩ := am_cl_spec e
  obtain ⟨n1, c⟩ := c
  obtain ⟨n2, k⟩ := k
  refine ⟨n1 + n2 + 1, ?_⟩
  rw [am_succ, hc]
  simp only [e1, e2, e3]
  rw [am_more n2 c]
  simp only [hh]
  rw [Nat.add_comm n1 n2]
  exact am_more n1 k
/-- it ends in one way -/
theorem am_R.one_end {d mi pc : Nat} {lv : am_L} {st : List Value} {h h1 h2 : am_H} {o1 o2 : am_O} (a : am_R d mi pc lv st h o1 h1) (b : am_R d mi pc lv st h o2 h2) : o1 = o2 ∧ h1 = h2 := by
  obtain ⟨n1, a⟩ := a
  obtain ⟨n2, b⟩ := b
  have a' := am_more n2 a
  have b' := am_more n1 b
  rw [Nat.add_comm n2 n1, a'] at b'
  simp only [Option.some.injEq, Prod.mk.injEq] at b'
  exact b'
end
section
/-! The small machine's state in the true one: addresses, values, locals, cells. -/
/-- where the cells of the start stand; where the new ones begin; the classes' numbers; the fields' slots; the array classes' numbers; where the script stands, and what it holds -/
abbrev am_X : Type := (Nat → Nat) × Nat × (Nat → ClassId) × (Nat → Nat) × (Nat → ClassId) × Nat × List Int32
def am_ph (X : am_X) (k : Nat) : Nat := if k < 1000 then X.1 k else if k = 1000 then X.2.2.2.2.2.1 else X.2.1 + (k - 1001)
def am_scr (X : am_X) : am_C := .inr (0, X.2.2.2.2.2.2.map Value.int)
def am_v (X : am_X) (v : Value) : Value := match v with
  | .ref a => .ref (am_ph X a)
  | .int x => .int x
  | .long x => .long x
  | .float x => .float x
  | .double x => .double x
  | .null => .null
  | .retAddr x => .retAddr x
theorem am_v_cat (X : am_X) (v : Value) : (am_v X v).category = v.category := by
  cases v <;> rfl
theorem am_v_cats (X : am_X) (st : List Value) : ((st.map (am_v X)).map fun v => v.category).sum = (st.map fun v => v.category).sum := by
  induction st with
  | nil => rfl
  | cons v r ih => simp only [List.map_cons, List.sum_cons, am_v_cat, ih]
/-- the locals -/
def am_Ls (X : am_X) (lv : am_L) (ls : Array Slot) : Prop := ls.size = lv.length ∧ lv_wf ls ∧ ∀ (i : Nat) (v : Value), lv[i]? = some (some v) → ls[i]? = some (.val (am_v X v))
theorem am_Ls.ld {X : am_X} {lv : am_L} {ls : Array Slot} (h : am_Ls X lv ls) {i : Nat} {v : Value} (e : am_ld lv i = some v) : ls[i]? = some (.val (am_v X v)) := by
  refine h.2.2 i v ?_
  unfold am_ld at e
  split at e
  · rename_i w hw
    cases e
    exact hw
  · cases e
def am_ps (X : am_X) (lv : am_L) : List (Nat × Value) := (List.range lv.length).filterMap (fun i => (am_ld lv i).map (fun v => (i, am_v X v)))
theorem am_ld_of {lv : am_L} {i : Nat} {v : Value} (h : lv[i]? = some (some v)) : am_ld lv i = some v := by
  unfold am_ld
  rw [h]
theorem am_ps_mem {X : am_X} {lv : am_L} {i : Nat} {v : Value} (h : lv[i]? = some (some v)) : (i, am_v X v) ∈ am_ps X lv := by
  refine List.mem_filterMap.mpr ⟨i, List.mem_range.mpr (List.getElem?_eq_some_iff.mp h).1, ?_⟩
  rw [am_ld_of h]
  rfl
theorem am_Ls.has {X : am_X} {lv : am_L} {ls : Array Slot} (h : am_Ls X lv ls) : lv_has ls lv.length (am_ps X lv) := by
  refine ⟨h.1, h.2.1, fun q hq => ?_⟩
  obtain ⟨i, -, hi⟩ := List.mem_filterMap.mp hq
  cases hv : am_ld lv i with
  | none => rw [hv] at hi; cases hi
  | some v =>
    rw [hv] at hi
    simp only [Option.map_some, Option.some.injEq] at hi
    subst hi
    exact h.ld hv
theorem am_isL_cat {v : Value} (h : am_isL (some (some v)) = false) : v.category = 1 := by
  cases v <;> first | rfl | (simp [am_isL] at h)
theorem am_Ls.s1 {X : am_X} {lv lv' : am_L} {ls' : Array Slot} {i : Nat} {v : Value} (e : am_s1 lv i v = some lv')
    (h : lv_has ls' lv.length ((i, am_v X v) :: (am_ps X lv).filter (fun q => !(q.1 == i) && !(q.1 + 1 == i && q.2.category == 2)))) : i < lv.length ∧ am_Ls X lv' ls' := by
  unfold am_s1 at e
  split at e
  · rename_i hc
    cases e
    obtain ⟨hi, hf⟩ := hc
    refine ⟨hi, by rw [List.length_set]; exact h.1, h.2.1, fun j w hj => ?_⟩
    by_cases hji : j = i
    · subst hji
      rw [List.getElem?_set_self hi] at hj
      cases hj
      exact h.2.2 (j, am_v X v) List.mem_cons_self
    · rw [List.getElem?_set_ne (fun q => hji q.symm)] at hj
      refine h.2.2 (j, am_v X w) (List.mem_cons_of_mem _ (List.mem_filter.mpr ⟨am_ps_mem hj, ?_⟩))
      have h1 : (j == i) = false := by simpa using hji
      by_cases hj2 : j + 1 = i
      · subst hj2
        have h2 : am_isL lv[j]? = false := by simpa [am_fr] using hf
        rw [hj] at h2
        have h3 := am_isL_cat h2
        simp [h1, am_v_cat, h3]
      · have h2 : (j + 1 == i) = false := by simpa using hj2
        simp [h1, h2]
  · cases e
theorem am_Ls.s2 {X : am_X} {lv lv' : am_L} {ls' : Array Slot} {i : Nat} {v : Value} (e : am_s2 lv i v = some lv')
    (h : lv_has ls' lv.length ((i, am_v X v) :: (am_ps X lv).filter (fun q => !(q.1 == i) && (!(q.1 == i + 1) && !(q.1 + 1 == i && q.2.category == 2))))) : i + 1 < lv.length ∧ am_Ls X lv' ls' := by
  unfold am_s2 at e
  split at e
  · rename_i hc
    cases e
    obtain ⟨hi, hf⟩ := hc
    refine ⟨hi, by rw [List.length_set, List.length_set]; exact h.1, h.2.1, fun j w hj => ?_⟩
    by_cases hj1 : j = i + 1
    · subst hj1
      rw [List.getElem?_set_self (by rw [List.length_set]; exact hi)] at hj
      cases hj
    · rw [List.getElem?_set_ne (fun q => hj1 q.symm)] at hj
      by_cases hji : j = i
      · subst hji
        rw [List.getElem?_set_self (by omega)] at hj
        cases hj
        exact h.2.2 (j, am_v X v) List.mem_cons_self
      · rw [List.getElem?_set_ne (fun q => hji q.symm)] at hj
        refine h.2.2 (j, am_v X w) (List.mem_cons_of_mem _ (List.mem_filter.mpr ⟨am_ps_mem hj, ?_⟩))
        have h1 : (j == i) = false := by simpa using hji
        have h0 : (j == i + 1) = false := by simpa using hj1
        by_cases hj2 : j + 1 = i
        · subst hj2
          have h2 : am_isL lv[j]? = false := by simpa [am_fr] using hf
          rw [hj] at h2
          have h3 := am_isL_cat h2
          simp [h1, h0, am_v_cat, h3]
          try omega
        · have h2 : (j + 1 == i) = false := by simpa using hj2
          simp [h1, h0, h2]
  · cases e
theorem am_s1_lt {lv lv' : am_L} {i : Nat} {v : Value} (e : am_s1 lv i v = some lv') : i < lv.length := by
  unfold am_s1 at e
  split at e
  · rename_i hc; exact hc.1
  · cases e
theorem am_s2_lt {lv lv' : am_L} {i : Nat} {v : Value} (e : am_s2 lv i v = some lv') : i + 1 < lv.length := by
  unfold am_s2 at e
  split at e
  · rename_i hc; exact hc.1
  · cases e
theorem am_s1_len {lv lv' : am_L} {i : Nat} {v : Value} (e : am_s1 lv i v = some lv') : lv'.length = lv.length := by
  unfold am_s1 at e
  split at e
  · cases e; exact List.length_set
  · cases e
theorem am_s2_len {lv lv' : am_L} {i : Nat} {v : Value} (e : am_s2 lv i v = some lv') : lv'.length = lv.length := by
  unfold am_s2 at e
  split at e
  · cases e; rw [List.length_set, List.length_set]
  · cases e
/-- a cell -/
def am_RC (X : am_X) (c : am_C) (cell : Cell) : Prop := match c with
  | .inl (ci, fs) => am_own ci = true ∧ cell.cls = X.2.2.1 ci ∧ cell.vm = .none ∧ ∀ (k f : Nat) (v : Value), (am_lay ci)[k]? = some f → fs[k]? = some v → cell.slots[X.2.2.2.1 f]? = some (am_v X v)
  | .inr (t, xs) => am_oka t = true ∧ cell = arrV (X.2.2.2.2.1 t) xs.length (fun j => am_v X (xs.getD j .null))
/-- the cells that were made, behind the script -/
def am_P (X : am_X) (h : am_H) (H : Heap) : Prop := h[0]? = some (am_scr X) ∧ H.size + 1 = X.2.1 + h.length ∧ ∀ (k : Nat) (c : am_C), h[k + 1]? = some c → ∃ cell, H[X.2.1 + k]? = some cell ∧ am_RC X c cell
theorem am_P.len {X : am_X} {h : am_H} {H : Heap} (hP : am_P X h H) : 1 ≤ h.length ∧ H.size = X.2.1 + (h.length - 1) := by
  have h1 := (List.getElem?_eq_some_iff.mp hP.1).1
  have h2 := hP.2.1
  omega
/-- how many slots they have -/
def am_cs (c : am_C) : Nat := match c with
  | .inl (ci, _) => am_N ci
  | .inr (_, xs) => xs.length
def am_sz (h : am_H) : Nat := (h.map am_cs).sum
theorem am_sz_push (h : am_H) (c : am_C) : am_sz (h ++ [c]) = am_sz h + am_cs c := by
  simp [am_sz]
theorem am_P.push {X : am_X} {h : am_H} {H H' : Heap} {c : am_C} {cell : Cell} (hP : am_P X h H) (e : H'[H.size]? = some cell) (hs : H'.size = H.size + 1) (ho : ∀ q, q < H.size → H'[q]? = H[q]?) (hc : am_RC X c cell) : am_P X (h ++ [c]) H' := by
  obtain ⟨l1, l2⟩ := hP.len
  refine ⟨by rw [List.getElem?_append_left (by omega)]; exact hP.1, by rw [hs, List.length_append]; simp; omega, fun k c' hk => ?_⟩
  by_cases hl : k + 1 < h.length
  · rw [List.getElem?_append_left hl] at hk
    obtain ⟨cell', q1, q2⟩ := hP.2.2 k c' hk
    exact ⟨cell', by rw [ho _ (by omega)]; exact q1, q2⟩
  · rw [List.getElem?_append_right (by omega)] at hk
    have hz : k + 1 - h.length < 1 := (List.getElem?_eq_some_iff.mp hk).1
    rw [show k + 1 - h.length = 0 by omega] at hk
    simp only [List.getElem?_cons_zero, Option.some.injEq] at hk
    subst hk
    exact ⟨cell, by rw [show X.2.1 + k = H.size by omega]; exact e, hc⟩
theorem am_P.set {X : am_X} {h : am_H} {H H' : Heap} {c : am_C} {cell : Cell} {k : Nat} (hP : am_P X h H) (hk : k + 1 < h.length) (e : H'[X.2.1 + k]? = some cell) (hs : H'.size = H.size) (ho : ∀ q, q ≠ X.2.1 + k → H'[q]? = H[q]?) (hc : am_RC X c cell) : am_P X (h.set (k + 1) c) H' := by
  refine ⟨by rw [List.getElem?_set_ne (by omega)]; exact hP.1, by rw [hs, List.length_set]; exact hP.2.1, fun j c' hj => ?_⟩
  by_cases hjk : j = k
  · subst hjk
    rw [List.getElem?_set_self hk] at hj
    cases hj
    exact ⟨cell, e, hc⟩
  · rw [List.getElem?_set_ne (by omega)] at hj
    obtain ⟨cell', q1, q2⟩ := hP.2.2 j c' hj
    exact ⟨cell', by rw [ho _ (by omega)]; exact q1, q2⟩
theorem am_sto_len {i : Instr} {lv lv' : am_L} {st st' : List Value} (e : am_sto i lv st = some (lv', st')) : lv'.length = lv.length := by
  have one : ∀ {k : Nat} {w : Value} {r : List Value}, (am_s1 lv k w).map (fun l => (l, r)) = some (lv', st') → lv'.length = lv.length := by
    intro k w r h
    cases hv : am_s1 lv k w with
    | none => rw [hv] at h; cases h
    | some z =>
      rw [hv] at h
      simp only [Option.map_some, Option.some.injEq, Prod.mk.injEq] at h
      rw [← h.1]
      exact am_s1_len hv
  have two : ∀ {k : Nat} {w : Value} {r : List Value}, (am_s2 lv k w).map (fun l => (l, r)) = some (lv', st') → lv'.length = lv.length := by
    intro k w r h
    cases hv : am_s2 lv k w with
    | none => rw [hv] at h; cases h
    | some z =>
      rw [hv] at h
      simp only [Option.map_some, Option.some.injEq, Prod.mk.injEq] at h
      rw [← h.1]
      exact am_s2_len hv
  unfold am_sto at e
  split at e <;> first | (cases e; done) | skip
  all_goals (split at e <;> first | (exact one e) | (exact two e) | (cases e))
end
section
/-! What stands in the tables is what the bytes say; the instructions that touch no cell. -/
def am_len (i : Instr) : Nat := match i with
  | .bipush _ => 2
  | .sipush _ => 3
  | .ldc2_w _ => 3
  | .iload _ => 2
  | .lload _ => 2
  | .aload _ => 2
  | .istore _ => 2
  | .lstore _ => 2
  | .astore _ => 2
  | .iinc _ _ => 3
  | .newarray _ => 2
  | _ => 1
def am_ck (ow pc : Nat) (i : Instr) (len : Nat) (i0 : Instr) : Bool := match i with
  | .goto t => decide (i0 = .goto (t - pc)) && decide (len = 3) && decide (0 ≤ t)
  | .ifCond c t => decide (i0 = .ifCond c (t - pc)) && decide (len = 3) && decide (0 ≤ t)
  | .if_icmp c t => decide (i0 = .if_icmp c (t - pc)) && decide (len = 3) && decide (0 ≤ t)
  | .if_acmp c t => decide (i0 = .if_acmp c (t - pc)) && decide (len = 3) && decide (0 ≤ t)
  | .ifnull t => decide (i0 = .ifnull (t - pc)) && decide (len = 3) && decide (0 ≤ t)
  | .ifnonnull t => decide (i0 = .ifnonnull (t - pc)) && decide (len = 3) && decide (0 ≤ t)
  | .tableswitch d lo hi ts => match i0 with
    | .tableswitch d0 lo0 hi0 os => decide (lo0 = lo) && decide (hi0 = hi) && decide ((pc : Int) + d0 = d) && decide (0 ≤ d) && decide (os.toList.map (fun o => (pc : Int) + o) = ts.toList) && ts.toList.all (fun t => decide (0 ≤ t))
    | _ => false
  | .lookupswitch d ps => match i0 with
    | .lookupswitch d0 os => decide ((pc : Int) + d0 = d) && decide (0 ≤ d) && decide (os.toList.map (fun o => (o.1, (pc : Int) + o.2)) = ps.toList) && ps.toList.all (fun t => decide (0 ≤ t.2)) && (os.toList.zip (os.toList.drop 1)).all (fun (a, next) => a.1 < next.1)
    | _ => false
  | .getfield f => match i0 with
    | .getfield k => decide (am_fl ow k = some f) && decide (len = 3)
    | _ => false
  | .putfield f => match i0 with
    | .putfield k => decide (am_fl ow k = some f) && decide (len = 3)
    | _ => false
  | .getstatic f => match i0 with
    | .getstatic k => decide (am_gl ow k = some f) && decide (len = 3)
    | _ => false
  | .new ci => match i0 with
    | .new k => decide (am_nl ow k = some ci) && decide (len = 3)
    | _ => false
  | .instanceof x => match i0 with
    | .new k => decide (am_nl ow k = some x) && decide (len = 3)
    | _ => false
  | .anewarray t => match i0 with
    | .anewarray k => decide (am_al ow k = some t) && decide (len = 3)
    | _ => false
  | .monitorenter => match i0 with
    | .invokespecial k => (am_s3 ow k am_obL).isSome && decide (len = 3)
    | _ => false
  | .monitorexit => match i0 with
    | .invokestatic k => (am_s3 ow k am_ciL).isSome && decide (len = 3)
    | _ => false
  | .dup_x2 => match i0 with
    | .invokestatic k => decide (am_s3 ow k am_maL = some 0) && decide (len = 3)
    | _ => false
  | .dup2_x1 => match i0 with
    | .invokestatic k => decide (am_s3 ow k am_maL = some 1) && decide (len = 3)
    | _ => false
  | .swap => match i0 with
    | .invokestatic k => decide (am_s3 ow k am_maL = some 2) && decide (len = 3)
    | _ => false
  | .invokevirtual x => match i0 with
    | .invokevirtual k => decide (am_il ow k = some x) && decide (len = 3)
    | _ => false
  | .invokestatic x => match i0 with
    | .invokestatic k => decide (am_il ow k = some x) && decide (len = 3)
    | _ => false
  | .invokespecial x => match i0 with
    | .invokespecial k => decide (am_il ow k = some x) && decide (len = 3)
    | _ => false
  | .invokeinterface x n => match i0 with
    | .invokeinterface k n0 => decide (am_il ow k = some x) && decide (n0 = n) && decide (len = 5)
    | _ => false
  | i => decide (i0 = i) && decide (len = am_len i)
section AmSimple
variable {p : Program} {l : Launch} {e : Env} {R : Room} {s : State} {m : MethodId} {args : Array Value} {below : List Frame} {meth : Method} {c : Code} {H : Heap} {locs : List Loc} {cells slots : Nat} {Q : State → Prop}
variable {cc : ByteArray} {pc len mi ow : Nat} {ls : Array Slot} {st : List Value} {X : am_X} {lv : am_L} {i i0 : Instr}
theorem am_push_ok (hx : p.tables.exec = Jvm.exec) (hb : c.code = cc) (hl : am_Ls X lv ls) {v : Value} (e1 : am_push mi i lv = some v) (hd : decode cc pc = .ok (i0, len)) (hck : am_ck ow pc i len i0 = true)
    (hown : s.vm.findClass (am_ow ow) = some m.cls) (hlc : ∀ (k : Nat) (v : Int64), am_lc mi k = some v → (Jvm.Cond.constantLong (am_ow ow) k v).before args s = true)
    (kk : W p l e R s m args below meth c H locs cells slots Q (F0 m (pc + len) ls (am_v X v :: st))) : W p l e R s m args below meth c H locs cells slots Q (F0 m pc ls st) := by
  unfold am_push at e1
  split at e1
  · simp only [am_ck, Bool.and_eq_true, decide_eq_true_eq] at hck
    obtain ⟨rfl, hck⟩ := hck
    simp only [am_len] at hck
    subst hck
    cases e1
    exact lv_iconst hx hb hd rfl kk
  · simp only [am_ck, Bool.and_eq_true, decide_eq_true_eq] at hck
    obtain ⟨rfl, hck⟩ := hck
    simp only [am_len] at hck
    subst hck
    cases e1
    exact lv_bipush hx hb hd rfl kk
  · simp only [am_ck, Bool.and_eq_true, decide_eq_true_eq] at hck
    obtain ⟨rfl, hck⟩ := hck
    simp only [am_len] at hck
    subst hck
    cases e1
    exact lv_sipush hx hb hd rfl kk
  · simp only [am_ck, Bool.and_eq_true, decide_eq_true_eq] at hck
    obtain ⟨rfl, hck⟩ := hck
    simp only [am_len] at hck
    subst hck
    cases e1
    exact lv_lconst hx hb hd rfl kk
  · simp only [am_ck, Bool.and_eq_true, decide_eq_true_eq] at hck
    obtain ⟨rfl, hck⟩ := hck
    simp only [am_len] at hck
    subst hck
    cases e1
    exact lv_null hx hb hd kk
  · simp only [am_ck, Bool.and_eq_true, decide_eq_true_eq] at hck
    obtain ⟨rfl, hck⟩ := hck
    simp only [am_len] at hck
    subst hck
    rename_i k
    cases hv : am_lc mi k with
    | none => rw [hv] at e1; cases e1
    | some z =>
      rw [hv] at e1
      simp only [Option.map_some, Option.some.injEq] at e1
      subst e1
      exact lv_ldc2 hx hb hown (hlc k z hv) hd kk
  · simp only [am_ck, Bool.and_eq_true, decide_eq_true_eq] at hck
    obtain ⟨rfl, hck⟩ := hck
    simp only [am_len] at hck
    subst hck
    split at e1
    · rename_i x hv
      cases e1
      exact lv_iload hx hb hd (hl.ld hv) kk
    · cases e1
  · simp only [am_ck, Bool.and_eq_true, decide_eq_true_eq] at hck
    obtain ⟨rfl, hck⟩ := hck
    simp only [am_len] at hck
    subst hck
    split at e1
    · rename_i x hv
      cases e1
      exact lv_iload_n hx hb hd rfl (hl.ld hv) kk
    · cases e1
  · simp only [am_ck, Bool.and_eq_true, decide_eq_true_eq] at hck
    obtain ⟨rfl, hck⟩ := hck
    simp only [am_len] at hck
    subst hck
    split at e1
    · rename_i x hv
      cases e1
      exact lv_lload hx hb hd (hl.ld hv) kk
    · cases e1
  · simp only [am_ck, Bool.and_eq_true, decide_eq_true_eq] at hck
    obtain ⟨rfl, hck⟩ := hck
    simp only [am_len] at hck
    subst hck
    split at e1
    · rename_i x hv
      cases e1
      exact lv_lload_n hx hb hd rfl (hl.ld hv) kk
    · cases e1
  · simp only [am_ck, Bool.and_eq_true, decide_eq_true_eq] at hck
    obtain ⟨rfl, hck⟩ := hck
    simp only [am_len] at hck
    subst hck
    split at e1
    · rename_i x hv
      cases e1
      exact lv_aload hx hb hd (hl.ld hv) kk
    · rename_i hv
      cases e1
      exact lv_aloadN hx hb hd (hl.ld hv) kk
    · cases e1
  · simp only [am_ck, Bool.and_eq_true, decide_eq_true_eq] at hck
    obtain ⟨rfl, hck⟩ := hck
    simp only [am_len] at hck
    subst hck
    split at e1
    · rename_i x hv
      cases e1
      exact lv_aload_n hx hb hd rfl (hl.ld hv) kk
    · rename_i hv
      cases e1
      exact lv_aload_nN hx hb hd rfl (hl.ld hv) kk
    · cases e1
  · cases e1
theorem am_sto_ok (hx : p.tables.exec = Jvm.exec) (hb : c.code = cc) (hl : am_Ls X lv ls) {lv' : am_L} {st' : List Value} (e1 : am_sto i lv st = some (lv', st')) (hd : decode cc pc = .ok (i0, len)) (hck : am_ck ow pc i len i0 = true)
    (kk : ∀ ls' : Array Slot, am_Ls X lv' ls' → W p l e R s m args below meth c H locs cells slots Q (F0 m (pc + len) ls' (st'.map (am_v X)))) : W p l e R s m args below meth c H locs cells slots Q (F0 m pc ls (st.map (am_v X))) := by
  have one : ∀ {lv1 : am_L} {k : Nat} {w : Value} {r : List Value}, (am_s1 lv k w).map (fun l => (l, r)) = some (lv', st') → am_s1 lv k w = some lv' ∧ r = st' := by
    intro lv1 k w r h
    cases hv : am_s1 lv k w with
    | none => rw [hv] at h; cases h
    | some z =>
      rw [hv] at h
      simp only [Option.map_some, Option.some.injEq, Prod.mk.injEq] at h
      exact ⟨by rw [h.1], h.2⟩
  have two : ∀ {lv1 : am_L} {k : Nat} {w : Value} {r : List Value}, (am_s2 lv k w).map (fun l => (l, r)) = some (lv', st') → am_s2 lv k w = some lv' ∧ r = st' := by
    intro lv1 k w r h
    cases hv : am_s2 lv k w with
    | none => rw [hv] at h; cases h
    | some z =>
      rw [hv] at h
      simp only [Option.map_some, Option.some.injEq, Prod.mk.injEq] at h
      exact ⟨by rw [h.1], h.2⟩
  unfold am_sto at e1
  split at e1
  · simp only [am_ck, Bool.and_eq_true, decide_eq_true_eq] at hck
    obtain ⟨rfl, hck⟩ := hck
    simp only [am_len] at hck
    subst hck
    split at e1
    · obtain ⟨h1, rfl⟩ := one (lv1 := lv) e1
      exact lv_istore hx hb hd hl.has (am_s1_lt h1) rfl (fun ls' h' => kk ls' (am_Ls.s1 h1 h').2)
    · cases e1
  · simp only [am_ck, Bool.and_eq_true, decide_eq_true_eq] at hck
    obtain ⟨rfl, hck⟩ := hck
    simp only [am_len] at hck
    subst hck
    split at e1
    · obtain ⟨h1, rfl⟩ := one (lv1 := lv) e1
      exact lv_istore_n hx hb hd rfl hl.has (am_s1_lt h1) rfl (fun ls' h' => kk ls' (am_Ls.s1 h1 h').2)
    · cases e1
  · simp only [am_ck, Bool.and_eq_true, decide_eq_true_eq] at hck
    obtain ⟨rfl, hck⟩ := hck
    simp only [am_len] at hck
    subst hck
    split at e1
    · obtain ⟨h1, rfl⟩ := two (lv1 := lv) e1
      exact lv_lstore hx hb hd hl.has (am_s2_lt h1) rfl (fun ls' h' => kk ls' (am_Ls.s2 h1 h').2)
    · cases e1
  · simp only [am_ck, Bool.and_eq_true, decide_eq_true_eq] at hck
    obtain ⟨rfl, hck⟩ := hck
    simp only [am_len] at hck
    subst hck
    split at e1
    · obtain ⟨h1, rfl⟩ := two (lv1 := lv) e1
      exact lv_lstore_n hx hb hd rfl hl.has (am_s2_lt h1) rfl (fun ls' h' => kk ls' (am_Ls.s2 h1 h').2)
    · cases e1
  · simp only [am_ck, Bool.and_eq_true, decide_eq_true_eq] at hck
    obtain ⟨rfl, hck⟩ := hck
    simp only [am_len] at hck
    subst hck
    split at e1
    · obtain ⟨h1, rfl⟩ := one (lv1 := lv) e1
      exact lv_astore hx hb hd hl.has (am_s1_lt h1) rfl (fun ls' h' => kk ls' (am_Ls.s1 h1 h').2)
    · obtain ⟨h1, rfl⟩ := one (lv1 := lv) e1
      exact lv_astoreN hx hb hd hl.has (am_s1_lt h1) rfl (fun ls' h' => kk ls' (am_Ls.s1 h1 h').2)
    · cases e1
  · simp only [am_ck, Bool.and_eq_true, decide_eq_true_eq] at hck
    obtain ⟨rfl, hck⟩ := hck
    simp only [am_len] at hck
    subst hck
    split at e1
    · obtain ⟨h1, rfl⟩ := one (lv1 := lv) e1
      exact lv_astore_n hx hb hd rfl hl.has (am_s1_lt h1) rfl (fun ls' h' => kk ls' (am_Ls.s1 h1 h').2)
    · obtain ⟨h1, rfl⟩ := one (lv1 := lv) e1
      exact lv_astore_nN hx hb hd rfl hl.has (am_s1_lt h1) rfl (fun ls' h' => kk ls' (am_Ls.s1 h1 h').2)
    · cases e1
  · rename_i k n
    simp only [am_ck, Bool.and_eq_true, decide_eq_true_eq] at hck
    obtain ⟨rfl, hck⟩ := hck
    simp only [am_len] at hck
    subst hck
    split at e1
    · rename_i x hv
      obtain ⟨h1, rfl⟩ := one (lv1 := lv) e1
      have hk : lv[k]? = some (some (.int x)) := by
        unfold am_ld at hv
        split at hv
        · rename_i w hw
          cases hv
          exact hw
        · cases hv
      obtain ⟨j, hj⟩ := List.getElem?_of_mem (am_ps_mem (X := X) hk)
      exact lv_iinc hx hb hd hl.has hj rfl (am_s1_lt h1) rfl (fun ls' h' => kk ls' (am_Ls.s1 h1 h').2)
    · cases e1
  · cases e1
theorem am_ari_ok (hx : p.tables.exec = Jvm.exec) (hb : c.code = cc) {st' : List Value} (e1 : am_ari i st = some st') (hd : decode cc pc = .ok (i0, len)) (hck : am_ck ow pc i len i0 = true)
    (kk : W p l e R s m args below meth c H locs cells slots Q (F0 m (pc + len) ls (st'.map (am_v X)))) : W p l e R s m args below meth c H locs cells slots Q (F0 m pc ls (st.map (am_v X))) := by
  unfold am_ari at e1
  split at e1 <;> first | (simp only [am_ck, Bool.and_eq_true, decide_eq_true_eq] at hck; obtain ⟨rfl, hck⟩ := hck; simp only [am_len] at hck; subst hck) | (cases e1; done)
  · split at e1
    · cases e1; exact lv_iadd hx hb hd kk
    · cases e1
  · split at e1
    · cases e1; exact lv_isub hx hb hd kk
    · cases e1
  · split at e1
    · cases e1; exact lv_imul hx hb hd kk
    · cases e1
  · split at e1
    · cases e1; exact lv_iand hx hb hd kk
    · cases e1
  · split at e1
    · cases e1; exact lv_ior hx hb hd kk
    · cases e1
  · split at e1
    · cases e1; exact lv_ixor hx hb hd kk
    · cases e1
  · split at e1
    · split at e1
      · cases e1
      · rename_i hne; cases e1; exact lv_idiv hx hb hd hne kk
    · cases e1
  · split at e1
    · split at e1
      · cases e1
      · rename_i hne; cases e1; exact lv_irem hx hb hd hne kk
    · cases e1
  · split at e1
    · cases e1; exact lv_ineg hx hb hd kk
    · cases e1
  · split at e1
    · cases e1; exact lv_ishl hx hb hd kk
    · cases e1
  · split at e1
    · cases e1; exact lv_ishr hx hb hd kk
    · cases e1
  · split at e1
    · cases e1; exact lv_i2c hx hb hd rfl kk
    · cases e1
  · split at e1
    · cases e1; exact lv_i2l hx hb hd rfl kk
    · cases e1
  · split at e1
    · cases e1; exact lv_l2i hx hb hd rfl kk
    · cases e1
  · split at e1
    · cases e1; exact lv_ladd hx hb hd kk
    · cases e1
  · split at e1
    · cases e1; exact lv_lmul hx hb hd kk
    · cases e1
  · split at e1
    · split at e1
      · cases e1
      · rename_i hne; cases e1; exact lv_ldiv hx hb hd hne kk
    · cases e1
  · split at e1
    · split at e1
      · cases e1
      · rename_i hne; cases e1; exact lv_lrem hx hb hd hne kk
    · cases e1
  · split at e1
    · cases e1; exact W.lcmp hx hb hd kk
    · cases e1
  · split at e1
    · split at e1
      · rename_i hv; cases e1; exact lv_dup hx hb hd (by rw [am_v_cat]; exact hv) kk
      · cases e1
    · cases e1
  · split at e1
    · split at e1
      · rename_i hv; cases e1; exact lv_pop hx hb hd (by rw [am_v_cat]; exact hv) kk
      · cases e1
    · cases e1
  · split at e1
    · split at e1
      · rename_i hv; cases e1; exact lv_dup2_11 hx hb hd (by rw [am_v_cat]; exact hv.1) (by rw [am_v_cat]; exact hv.2) kk
      · cases e1
    · cases e1
  · split at e1
    · split at e1
      · rename_i hv; cases e1; exact lv_dup_x1 hx hb hd (by rw [am_v_cat]; exact hv.1) (by rw [am_v_cat]; exact hv.2) kk
      · cases e1
    · cases e1
end AmSimple
end
section
/-! The tables' instructions are the bytes': a row a method, by computation. -/
/-- one row of a method's table against its bytes -/
def am_chk (mi : Nat) (z : Nat × Instr × Nat) : Bool := match decode (am_mb mi) z.1 with
  | .ok (i0, l0) => decide (l0 = z.2.2) && am_ck (am_mo mi) z.1 z.2.1 z.2.2 i0 && (match i0 with
    | .putfield k => am_pl (am_mo mi) k
    | _ => true)
  | .error _ => false
set_option maxRecDepth 100000 in
theorem am_k1 : am_c1.all (am_chk 1) = true := by decide +kernel
set_option maxRecDepth 100000 in
theorem am_k2 : am_c2.all (am_chk 2) = true := by decide +kernel
set_option maxRecDepth 100000 in
theorem am_k3 : am_c3.all (am_chk 3) = true := by decide +kernel
set_option maxRecDepth 100000 in
theorem am_k4 : am_c4.all (am_chk 4) = true := by decide +kernel
set_option maxRecDepth 100000 in
theorem am_k5 : am_c5.all (am_chk 5) = true := by decide +kernel
set_option maxRecDepth 100000 in
theorem am_k6 : am_c6.all (am_chk 6) = true := by decide +kernel
set_option maxRecDepth 100000 in
theorem am_k7 : am_c7.all (am_chk 7) = true := by decide +kernel
set_option maxRecDepth 100000 in
theorem am_k8 : am_c8.all (am_chk 8) = true := by decide +kernel
set_option maxRecDepth 100000 in
theorem am_k9 : am_c9.all (am_chk 9) = true := by decide +kernel
set_option maxRecDepth 100000 in
theorem am_k10 : am_c10.all (am_chk 10) = true := by decide +kernel
set_option maxRecDepth 100000 in
theorem am_k11 : am_c11.all (am_chk 11) = true := by decide +kernel
set_option maxRecDepth 100000 in
theorem am_k12 : am_c12.all (am_chk 12) = true := by decide +kernel
set_option maxRecDepth 100000 in
theorem am_k13 : am_c13.all (am_chk 13) = true := by decide +kernel
set_option maxRecDepth 100000 in
theorem am_k14 : am_c14.all (am_chk 14) = true := by decide +kernel
set_option maxRecDepth 100000 in
theorem am_k15 : am_c15.all (am_chk 15) = true := by decide +kernel
set_option maxRecDepth 100000 in
theorem am_k16 : am_c16.all (am_chk 16) = true := by decide +kernel
set_option maxRecDepth 100000 in
theorem am_k17 : am_c17.all (am_chk 17) = true := by decide +kernel
set_option maxRecDepth 100000 in
theorem am_k18 : am_c18.all (am_chk 18) = true := by decide +kernel
set_option maxRecDepth 100000 in
theorem am_k19 : am_c19.all (am_chk 19) = true := by decide +kernel
set_option maxRecDepth 100000 in
theorem am_k20 : am_c20.all (am_chk 20) = true := by decide +kernel
set_option maxRecDepth 100000 in
theorem am_k21 : am_c21.all (am_chk 21) = true := by decide +kernel
set_option maxRecDepth 100000 in
theorem am_k22 : am_c22.all (am_chk 22) = true := by decide +kernel
set_option maxRecDepth 100000 in
theorem am_k23 : am_c23.all (am_chk 23) = true := by decide +kernel
set_option maxRecDepth 100000 in
theorem am_k24 : am_c24.all (am_chk 24) = true := by decide +kernel
set_option maxRecDepth 100000 in
theorem am_k25 : am_c25.all (am_chk 25) = true := by decide +kernel
set_option maxRecDepth 100000 in
theorem am_k26 : am_c26.all (am_chk 26) = true := by decide +kernel
set_option maxRecDepth 100000 in
theorem am_k27 : am_c27.all (am_chk 27) = true := by decide +kernel
set_option maxRecDepth 100000 in
theorem am_k28 : am_c28.all (am_chk 28) = true := by decide +kernel
set_option maxRecDepth 100000 in
theorem am_k29 : am_c29.all (am_chk 29) = true := by decide +kernel
set_option maxRecDepth 100000 in
theorem am_k30 : am_c30.all (am_chk 30) = true := by decide +kernel
set_option maxRecDepth 100000 in
theorem am_k31 : am_c31.all (am_chk 31) = true := by decide +kernel
set_option maxRecDepth 100000 in
theorem am_k32 : am_c32.all (am_chk 32) = true := by decide +kernel
set_option maxRecDepth 100000 in
theorem am_k33 : am_c33.all (am_chk 33) = true := by decide +kernel
set_option maxRecDepth 100000 in
theorem am_k34 : am_c34.all (am_chk 34) = true := by decide +kernel
set_option maxRecDepth 100000 in
theorem am_k35 : am_c35.all (am_chk 35) = true := by decide +kernel
set_option maxRecDepth 100000 in
theorem am_k36 : am_c36.all (am_chk 36) = true := by decide +kernel
set_option maxRecDepth 100000 in
theorem am_k37 : am_c37.all (am_chk 37) = true := by decide +kernel
set_option maxRecDepth 100000 in
theorem am_k38 : am_c38.all (am_chk 38) = true := by decide +kernel
set_option maxRecDepth 100000 in
theorem am_k39 : am_c39.all (am_chk 39) = true := by decide +kernel
set_option maxRecDepth 100000 in
theorem am_k40 : am_c40.all (am_chk 40) = true := by decide +kernel
end
section
/-! More methods. -/
set_option maxRecDepth 100000 in
theorem am_k41 : am_c41.all (am_chk 41) = true := by decide +kernel
set_option maxRecDepth 100000 in
theorem am_k42 : am_c42.all (am_chk 42) = true := by decide +kernel
set_option maxRecDepth 100000 in
theorem am_k43 : am_c43.all (am_chk 43) = true := by decide +kernel
set_option maxRecDepth 100000 in
theorem am_k44 : am_c44.all (am_chk 44) = true := by decide +kernel
set_option maxRecDepth 100000 in
theorem am_k45 : am_c45.all (am_chk 45) = true := by decide +kernel
set_option maxRecDepth 100000 in
theorem am_k46 : am_c46.all (am_chk 46) = true := by decide +kernel
set_option maxRecDepth 100000 in
theorem am_k47 : am_c47.all (am_chk 47) = true := by decide +kernel
set_option maxRecDepth 100000 in
theorem am_k48 : am_c48.all (am_chk 48) = true := by decide +kernel
set_option maxRecDepth 100000 in
theorem am_k49 : am_c49.all (am_chk 49) = true := by decide +kernel
set_option maxRecDepth 100000 in
theorem am_k50 : am_c50.all (am_chk 50) = true := by decide +kernel
set_option maxRecDepth 100000 in
theorem am_k51 : am_c51.all (am_chk 51) = true := by decide +kernel
set_option maxRecDepth 100000 in
theorem am_k52 : am_c52.all (am_chk 52) = true := by decide +kernel
set_option maxRecDepth 100000 in
theorem am_k53 : am_c53.all (am_chk 53) = true := by decide +kernel
set_option maxRecDepth 100000 in
theorem am_k54 : am_c54.all (am_chk 54) = true := by decide +kernel
set_option maxRecDepth 100000 in
theorem am_k55 : am_c55.all (am_chk 55) = true := by decide +kernel
set_option maxRecDepth 100000 in
theorem am_k56 : am_c56.all (am_chk 56) = true := by decide +kernel
set_option maxRecDepth 100000 in
theorem am_k57 : am_c57.all (am_chk 57) = true := by decide +kernel
set_option maxRecDepth 100000 in
theorem am_k58 : am_c58.all (am_chk 58) = true := by decide +kernel
set_option maxRecDepth 100000 in
theorem am_k59 : am_c59.all (am_chk 59) = true := by decide +kernel
set_option maxRecDepth 100000 in
theorem am_k60 : am_c60.all (am_chk 60) = true := by decide +kernel
set_option maxRecDepth 100000 in
theorem am_k61 : am_c61.all (am_chk 61) = true := by decide +kernel
set_option maxRecDepth 100000 in
theorem am_k62 : am_c62.all (am_chk 62) = true := by decide +kernel
set_option maxRecDepth 100000 in
theorem am_k63 : am_c63.all (am_chk 63) = true := by decide +kernel
set_option maxRecDepth 100000 in
theorem am_k64 : am_c64.all (am_chk 64) = true := by decide +kernel
set_option maxRecDepth 100000 in
theorem am_k65 : am_c65.all (am_chk 65) = true := by decide +kernel
set_option maxRecDepth 100000 in
theorem am_k66 : am_c66.all (am_chk 66) = true := by decide +kernel
set_option maxRecDepth 100000 in
theorem am_k67 : am_c67.all (am_chk 67) = true := by decide +kernel
set_option maxRecDepth 100000 in
theorem am_k68 : am_c68.all (am_chk 68) = true := by decide +kernel
set_option maxRecDepth 100000 in
theorem am_k69 : am_c69.all (am_chk 69) = true := by decide +kernel
set_option maxRecDepth 100000 in
theorem am_k70 : am_c70.all (am_chk 70) = true := by decide +kernel
set_option maxRecDepth 100000 in
theorem am_k71 : am_c71.all (am_chk 71) = true := by decide +kernel
set_option maxRecDepth 100000 in
theorem am_k72 : am_c72.all (am_chk 72) = true := by decide +kernel
end
section
/-! More methods. -/
set_option maxRecDepth 100000 in
theorem am_k73 : am_c73.all (am_chk 73) = true := by decide +kernel
set_option maxRecDepth 100000 in
theorem am_k74 : am_c74.all (am_chk 74) = true := by decide +kernel
set_option maxRecDepth 100000 in
theorem am_k75 : am_c75.all (am_chk 75) = true := by decide +kernel
set_option maxRecDepth 100000 in
theorem am_k76 : am_c76.all (am_chk 76) = true := by decide +kernel
set_option maxRecDepth 100000 in
theorem am_k77 : am_c77.all (am_chk 77) = true := by decide +kernel
set_option maxRecDepth 100000 in
theorem am_k78 : am_c78.all (am_chk 78) = true := by decide +kernel
set_option maxRecDepth 100000 in
theorem am_k79 : am_c79.all (am_chk 79) = true := by decide +kernel
set_option maxRecDepth 100000 in
theorem am_k80 : am_c80.all (am_chk 80) = true := by decide +kernel
set_option maxRecDepth 100000 in
theorem am_k81 : am_c81.all (am_chk 81) = true := by decide +kernel
set_option maxRecDepth 100000 in
theorem am_k82 : am_c82.all (am_chk 82) = true := by decide +kernel
set_option maxRecDepth 100000 in
theorem am_k83 : am_c83.all (am_chk 83) = true := by decide +kernel
set_option maxRecDepth 100000 in
theorem am_k84 : am_c84.all (am_chk 84) = true := by decide +kernel
set_option maxRecDepth 100000 in
theorem am_k85 : am_c85.all (am_chk 85) = true := by decide +kernel
set_option maxRecDepth 100000 in
theorem am_k86 : am_c86.all (am_chk 86) = true := by decide +kernel
set_option maxRecDepth 100000 in
theorem am_k87 : am_c87.all (am_chk 87) = true := by decide +kernel
set_option maxRecDepth 100000 in
theorem am_k88 : am_c88.all (am_chk 88) = true := by decide +kernel
set_option maxRecDepth 100000 in
theorem am_k89 : am_c89.all (am_chk 89) = true := by decide +kernel
set_option maxRecDepth 100000 in
theorem am_k90 : am_c90.all (am_chk 90) = true := by decide +kernel
set_option maxRecDepth 100000 in
theorem am_k91 : am_c91.all (am_chk 91) = true := by decide +kernel
set_option maxRecDepth 100000 in
theorem am_k92 : am_c92.all (am_chk 92) = true := by decide +kernel
set_option maxRecDepth 100000 in
theorem am_k93 : am_c93.all (am_chk 93) = true := by decide +kernel
set_option maxRecDepth 100000 in
theorem am_k94 : am_c94.all (am_chk 94) = true := by decide +kernel
set_option maxRecDepth 100000 in
theorem am_k95 : am_c95.all (am_chk 95) = true := by decide +kernel
set_option maxRecDepth 100000 in
theorem am_k96 : am_c96.all (am_chk 96) = true := by decide +kernel
set_option maxRecDepth 100000 in
theorem am_k97 : am_c97.all (am_chk 97) = true := by decide +kernel
set_option maxRecDepth 100000 in
theorem am_k98 : am_c98.all (am_chk 98) = true := by decide +kernel
set_option maxRecDepth 100000 in
theorem am_k99 : am_c99.all (am_chk 99) = true := by decide +kernel
set_option maxRecDepth 100000 in
theorem am_k100 : am_c100.all (am_chk 100) = true := by decide +kernel
set_option maxRecDepth 100000 in
theorem am_k101 : am_c101.all (am_chk 101) = true := by decide +kernel
set_option maxRecDepth 100000 in
theorem am_k102 : am_c102.all (am_chk 102) = true := by decide +kernel
end
section
/-! More methods. -/
set_option maxRecDepth 100000 in
theorem am_k103 : am_c103.all (am_chk 103) = true := by decide +kernel
set_option maxRecDepth 100000 in
theorem am_k104 : am_c104.all (am_chk 104) = true := by decide +kernel
set_option maxRecDepth 100000 in
theorem am_k105 : am_c105.all (am_chk 105) = true := by decide +kernel
set_option maxRecDepth 100000 in
theorem am_k106 : am_c106.all (am_chk 106) = true := by decide +kernel
set_option maxRecDepth 100000 in
theorem am_k107 : am_c107.all (am_chk 107) = true := by decide +kernel
set_option maxRecDepth 100000 in
theorem am_k108 : am_c108.all (am_chk 108) = true := by decide +kernel
set_option maxRecDepth 100000 in
theorem am_k109 : am_c109.all (am_chk 109) = true := by decide +kernel
set_option maxRecDepth 100000 in
theorem am_k110 : am_c110.all (am_chk 110) = true := by decide +kernel
set_option maxRecDepth 100000 in
theorem am_k111 : am_c111.all (am_chk 111) = true := by decide +kernel
set_option maxRecDepth 100000 in
theorem am_k112 : am_c112.all (am_chk 112) = true := by decide +kernel
set_option maxRecDepth 100000 in
theorem am_k113 : am_c113.all (am_chk 113) = true := by decide +kernel
set_option maxRecDepth 100000 in
theorem am_k114 : am_c114.all (am_chk 114) = true := by decide +kernel
set_option maxRecDepth 100000 in
theorem am_k115 : am_c115.all (am_chk 115) = true := by decide +kernel
set_option maxRecDepth 100000 in
theorem am_k116 : am_c116.all (am_chk 116) = true := by decide +kernel
end
section
/-! More methods. -/
set_option maxRecDepth 100000 in
theorem am_k117 : am_c117.all (am_chk 117) = true := by decide +kernel
set_option maxRecDepth 100000 in
theorem am_k118 : am_c118.all (am_chk 118) = true := by decide +kernel
set_option maxRecDepth 100000 in
theorem am_k119 : am_c119.all (am_chk 119) = true := by decide +kernel
set_option maxRecDepth 100000 in
theorem am_k120 : am_c120.all (am_chk 120) = true := by decide +kernel
set_option maxRecDepth 100000 in
theorem am_k121 : am_c121.all (am_chk 121) = true := by decide +kernel
set_option maxRecDepth 100000 in
theorem am_k122 : am_c122.all (am_chk 122) = true := by decide +kernel
set_option maxRecDepth 100000 in
theorem am_k123 : am_c123.all (am_chk 123) = true := by decide +kernel
set_option maxRecDepth 100000 in
theorem am_k124 : am_c124.all (am_chk 124) = true := by decide +kernel
set_option maxRecDepth 100000 in
theorem am_k125 : am_c125.all (am_chk 125) = true := by decide +kernel
set_option maxRecDepth 100000 in
theorem am_k126 : am_c126.all (am_chk 126) = true := by decide +kernel
set_option maxRecDepth 100000 in
theorem am_k127 : am_c127.all (am_chk 127) = true := by decide +kernel
set_option maxRecDepth 100000 in
theorem am_k128 : am_c128.all (am_chk 128) = true := by decide +kernel
set_option maxRecDepth 100000 in
theorem am_k129 : am_c129.all (am_chk 129) = true := by decide +kernel
set_option maxRecDepth 100000 in
theorem am_k130 : am_c130.all (am_chk 130) = true := by decide +kernel
set_option maxRecDepth 100000 in
theorem am_k131 : am_c131.all (am_chk 131) = true := by decide +kernel
set_option maxRecDepth 100000 in
theorem am_k132 : am_c132.all (am_chk 132) = true := by decide +kernel
set_option maxRecDepth 100000 in
theorem am_k133 : am_c133.all (am_chk 133) = true := by decide +kernel
set_option maxRecDepth 100000 in
theorem am_k134 : am_c134.all (am_chk 134) = true := by decide +kernel
set_option maxRecDepth 100000 in
theorem am_k135 : am_c135.all (am_chk 135) = true := by decide +kernel
end
section
/-! More methods. -/
set_option maxRecDepth 100000 in
theorem am_k136 : am_c136.all (am_chk 136) = true := by decide +kernel
set_option maxRecDepth 100000 in
theorem am_k137 : am_c137.all (am_chk 137) = true := by decide +kernel
set_option maxRecDepth 100000 in
theorem am_k138 : am_c138.all (am_chk 138) = true := by decide +kernel
set_option maxRecDepth 100000 in
theorem am_k139 : am_c139.all (am_chk 139) = true := by decide +kernel
set_option maxRecDepth 100000 in
theorem am_k140 : am_c140.all (am_chk 140) = true := by decide +kernel
set_option maxRecDepth 100000 in
theorem am_k141 : am_c141.all (am_chk 141) = true := by decide +kernel
set_option maxRecDepth 100000 in
theorem am_k142 : am_c142.all (am_chk 142) = true := by decide +kernel
set_option maxRecDepth 100000 in
theorem am_k143 : am_c143.all (am_chk 143) = true := by decide +kernel
set_option maxRecDepth 100000 in
theorem am_k144 : am_c144.all (am_chk 144) = true := by decide +kernel
set_option maxRecDepth 100000 in
theorem am_k145 : am_c145.all (am_chk 145) = true := by decide +kernel
set_option maxRecDepth 100000 in
theorem am_k146 : am_c146.all (am_chk 146) = true := by decide +kernel
set_option maxRecDepth 100000 in
theorem am_k147 : am_c147.all (am_chk 147) = true := by decide +kernel
set_option maxRecDepth 100000 in
theorem am_k148 : am_c148.all (am_chk 148) = true := by decide +kernel
set_option maxRecDepth 100000 in
theorem am_k149 : am_c149.all (am_chk 149) = true := by decide +kernel
end
section
/-! The law itself, in pieces. -/
set_option maxRecDepth 100000 in
theorem am_k0_0 : ((am_c0.drop 0).take 60).all (am_chk 0) = true := by decide +kernel
set_option maxRecDepth 100000 in
theorem am_k0_1 : ((am_c0.drop 60).take 60).all (am_chk 0) = true := by decide +kernel
set_option maxRecDepth 100000 in
theorem am_k0_2 : ((am_c0.drop 120).take 60).all (am_chk 0) = true := by decide +kernel
set_option maxRecDepth 100000 in
theorem am_k0_3 : ((am_c0.drop 180).take 60).all (am_chk 0) = true := by decide +kernel
set_option maxRecDepth 100000 in
theorem am_k0_4 : ((am_c0.drop 240).take 60).all (am_chk 0) = true := by decide +kernel
set_option maxRecDepth 100000 in
theorem am_k0_5 : ((am_c0.drop 300).take 60).all (am_chk 0) = true := by decide +kernel
set_option maxRecDepth 100000 in
theorem am_k0_6 : ((am_c0.drop 360).take 60).all (am_chk 0) = true := by decide +kernel
set_option maxRecDepth 100000 in
theorem am_k0_7 : ((am_c0.drop 420).take 60).all (am_chk 0) = true := by decide +kernel
set_option maxRecDepth 100000 in
theorem am_k0_8 : ((am_c0.drop 480).take 60).all (am_chk 0) = true := by decide +kernel
set_option maxRecDepth 100000 in
theorem am_k0_9 : ((am_c0.drop 540).take 60).all (am_chk 0) = true := by decide +kernel
theorem am_all_cut {α : Type} (f : α → Bool) (l : List α) (n : Nat) (h1 : (l.take n).all f = true) (h2 : (l.drop n).all f = true) : l.all f = true := by
  rw [← List.take_append_drop n l, List.all_append, h1, h2]
  rfl
theorem am_k0_r10 : (am_c0.drop 600).all (am_chk 0) = true := by decide +kernel
theorem am_k0_r9 : (am_c0.drop 540).all (am_chk 0) = true := am_all_cut _ _ 60 am_k0_9 (by rw [List.drop_drop]; exact am_k0_r10)
theorem am_k0_r8 : (am_c0.drop 480).all (am_chk 0) = true := am_all_cut _ _ 60 am_k0_8 (by rw [List.drop_drop]; exact am_k0_r9)
theorem am_k0_r7 : (am_c0.drop 420).all (am_chk 0) = true := am_all_cut _ _ 60 am_k0_7 (by rw [List.drop_drop]; exact am_k0_r8)
theorem am_k0_r6 : (am_c0.drop 360).all (am_chk 0) = true := am_all_cut _ _ 60 am_k0_6 (by rw [List.drop_drop]; exact am_k0_r7)
theorem am_k0_r5 : (am_c0.drop 300).all (am_chk 0) = true := am_all_cut _ _ 60 am_k0_5 (by rw [List.drop_drop]; exact am_k0_r6)
theorem am_k0_r4 : (am_c0.drop 240).all (am_chk 0) = true := am_all_cut _ _ 60 am_k0_4 (by rw [List.drop_drop]; exact am_k0_r5)
theorem am_k0_r3 : (am_c0.drop 180).all (am_chk 0) = true := am_all_cut _ _ 60 am_k0_3 (by rw [List.drop_drop]; exact am_k0_r4)
theorem am_k0_r2 : (am_c0.drop 120).all (am_chk 0) = true := am_all_cut _ _ 60 am_k0_2 (by rw [List.drop_drop]; exact am_k0_r3)
theorem am_k0_r1 : (am_c0.drop 60).all (am_chk 0) = true := am_all_cut _ _ 60 am_k0_1 (by rw [List.drop_drop]; exact am_k0_r2)
theorem am_k0_r0 : (am_c0.drop 0).all (am_chk 0) = true := am_all_cut _ _ 60 am_k0_0 (by rw [List.drop_drop]; exact am_k0_r1)
theorem am_k0 : am_c0.all (am_chk 0) = true := am_k0_r0
end
section
/-! All methods. -/
theorem am_kall : ∀ mi : Nat, (am_cL mi).all (am_chk mi) = true
  | 0 => am_k0
  | 1 => am_k1
  | 2 => am_k2
  | 3 => am_k3
  | 4 => am_k4
  | 5 => am_k5
  | 6 => am_k6
  | 7 => am_k7
  | 8 => am_k8
  | 9 => am_k9
  | 10 => am_k10
  | 11 => am_k11
  | 12 => am_k12
  | 13 => am_k13
  | 14 => am_k14
  | 15 => am_k15
  | 16 => am_k16
  | 17 => am_k17
  | 18 => am_k18
  | 19 => am_k19
  | 20 => am_k20
  | 21 => am_k21
  | 22 => am_k22
  | 23 => am_k23
  | 24 => am_k24
  | 25 => am_k25
  | 26 => am_k26
  | 27 => am_k27
  | 28 => am_k28
  | 29 => am_k29
  | 30 => am_k30
  | 31 => am_k31
  | 32 => am_k32
  | 33 => am_k33
  | 34 => am_k34
  | 35 => am_k35
  | 36 => am_k36
  | 37 => am_k37
  | 38 => am_k38
  | 39 => am_k39
  | 40 => am_k40
  | 41 => am_k41
  | 42 => am_k42
  | 43 => am_k43
  | 44 => am_k44
  | 45 => am_k45
  | 46 => am_k46
  | 47 => am_k47
  | 48 => am_k48
  | 49 => am_k49
  | 50 => am_k50
  | 51 => am_k51
  | 52 => am_k52
  | 53 => am_k53
  | 54 => am_k54
  | 55 => am_k55
  | 56 => am_k56
  | 57 => am_k57
  | 58 => am_k58
  | 59 => am_k59
  | 60 => am_k60
  | 61 => am_k61
  | 62 => am_k62
  | 63 => am_k63
  | 64 => am_k64
  | 65 => am_k65
  | 66 => am_k66
  | 67 => am_k67
  | 68 => am_k68
  | 69 => am_k69
  | 70 => am_k70
  | 71 => am_k71
  | 72 => am_k72
  | 73 => am_k73
  | 74 => am_k74
  | 75 => am_k75
  | 76 => am_k76
  | 77 => am_k77
  | 78 => am_k78
  | 79 => am_k79
  | 80 => am_k80
  | 81 => am_k81
  | 82 => am_k82
  | 83 => am_k83
  | 84 => am_k84
  | 85 => am_k85
  | 86 => am_k86
  | 87 => am_k87
  | 88 => am_k88
  | 89 => am_k89
  | 90 => am_k90
  | 91 => am_k91
  | 92 => am_k92
  | 93 => am_k93
  | 94 => am_k94
  | 95 => am_k95
  | 96 => am_k96
  | 97 => am_k97
  | 98 => am_k98
  | 99 => am_k99
  | 100 => am_k100
  | 101 => am_k101
  | 102 => am_k102
  | 103 => am_k103
  | 104 => am_k104
  | 105 => am_k105
  | 106 => am_k106
  | 107 => am_k107
  | 108 => am_k108
  | 109 => am_k109
  | 110 => am_k110
  | 111 => am_k111
  | 112 => am_k112
  | 113 => am_k113
  | 114 => am_k114
  | 115 => am_k115
  | 116 => am_k116
  | 117 => am_k117
  | 118 => am_k118
  | 119 => am_k119
  | 120 => am_k120
  | 121 => am_k121
  | 122 => am_k122
  | 123 => am_k123
  | 124 => am_k124
  | 125 => am_k125
  | 126 => am_k126
  | 127 => am_k127
  | 128 => am_k128
  | 129 => am_k129
  | 130 => am_k130
  | 131 => am_k131
  | 132 => am_k132
  | 133 => am_k133
  | 134 => am_k134
  | 135 => am_k135
  | 136 => am_k136
  | 137 => am_k137
  | 138 => am_k138
  | 139 => am_k139
  | 140 => am_k140
  | 141 => am_k141
  | 142 => am_k142
  | 143 => am_k143
  | 144 => am_k144
  | 145 => am_k145
  | 146 => am_k146
  | 147 => am_k147
  | 148 => am_k148
  | 149 => am_k149
  | _ + 150 => rfl
theorem am_find_mem {pc : Nat} : ∀ {l : List (Nat × Instr × Nat)} {i : Instr} {n : Nat}, am_find pc l = some (i, n) → (pc, i, n) ∈ l := by
  intro l
  induction l with
  | nil => intro i n h; cases h
  | cons z r ih =>
    obtain ⟨q, j, k⟩ := z
    intro i n h
    rw [am_find] at h
    split at h
    · rename_i hq
      cases h
      rw [hq]
      exact List.mem_cons_self
    · exact List.mem_cons_of_mem _ (ih h)
end
section
/-! Branches. -/
/-- the cells of the start are apart from each other and from the new ones -/
def am_inj (X : am_X) : Prop := (∀ k, k < am_stat.length → X.1 k < X.2.1) ∧ ∀ j k, j < 38 → k < 38 → X.1 j = X.1 k → j = k
theorem am_at_lt {h : am_H} {a : Nat} (e : (am_at h a).isSome = true ∧ (a < 38 ∨ 1001 ≤ a)) : a < 38 ∨ 1001 ≤ a ∧ a - 1000 < h.length := by
  obtain ⟨e, hne⟩ := e
  rcases hne with hne | hne
  · exact Or.inl hne
  · unfold am_at at e
    rw [if_neg (by omega)] at e
    refine Or.inr ⟨hne, ?_⟩
    obtain ⟨z, hz⟩ := Option.isSome_iff_exists.mp e
    exact (List.getElem?_eq_some_iff.mp hz).1
theorem am_stat_len : 38 ≤ am_stat.length := by decide
theorem am_ph_inj {X : am_X} (hX : am_inj X) {h : am_H} {a b : Nat} (ha : (am_at h a).isSome = true ∧ (a < 38 ∨ 1001 ≤ a)) (hb : (am_at h b).isSome = true ∧ (b < 38 ∨ 1001 ≤ b)) (e : am_ph X a = am_ph X b) : a = b := by
  have hl := am_stat_len
  unfold am_ph at e
  rcases am_at_lt ha with a1 | ⟨a1, a2⟩ <;> rcases am_at_lt hb with b1 | ⟨b1, b2⟩
  · rw [if_pos (by omega), if_pos (by omega)] at e
    exact hX.2 a b a1 b1 e
  · rw [if_pos (by omega), if_neg (by omega), if_neg (by omega)] at e
    have := hX.1 a (by omega)
    omega
  · rw [if_neg (by omega), if_neg (by omega), if_pos (by omega)] at e
    have := hX.1 b (by omega)
    omega
  · rw [if_neg (by omega), if_neg (by omega), if_neg (by omega), if_neg (by omega)] at e
    omega
theorem am_rf_v {X : am_X} {h : am_H} {v : Value} {r : Option Nat} (e : am_rf h v = some r) : am_v X v = va_rf (r.map (am_ph X)) := by
  unfold am_rf at e
  split at e
  · split at e
    · cases e; rfl
    · cases e
  · cases e; rfl
  · cases e
theorem am_rf_eq {X : am_X} (hX : am_inj X) {h : am_H} {v w : Value} {r q : Option Nat} (e1 : am_rf h v = some r) (e2 : am_rf h w = some q) (e : r.map (am_ph X) = q.map (am_ph X)) : r = q := by
  unfold am_rf at e1 e2
  split at e1
  · split at e1
    · rename_i a ha
      cases e1
      split at e2
      · split at e2
        · rename_i b hb
          cases e2
          simp only [Option.map_some, Option.some.injEq] at e
          rw [am_ph_inj hX ha hb e]
        · cases e2
      · cases e2; cases e
      · cases e2
    · cases e1
  · cases e1
    split at e2
    · split at e2
      · cases e2; cases e
      · cases e2
    · cases e2; rfl
    · cases e2
  · cases e1
theorem am_off {d : Int} {x : Int} (z : Int) : ∀ (os ps : List (Int × Int)), os.map (fun o => (o.1, z + o.2)) = ps → Op.lookupswitch.offset ps (z + d) x = z + Op.lookupswitch.offset os d x := by
  intro os
  induction os with
  | nil =>
    intro ps h
    subst h
    rfl
  | cons o r ih =>
    intro ps h
    subst h
    obtain ⟨a, b⟩ := o
    rw [List.map_cons, Op.lookupswitch.offset_cons, Op.lookupswitch.offset_cons]
    split
    · rfl
    · exact ih _ rfl
theorem am_off_pos {x d : Int} : ∀ ps : List (Int × Int), ps.all (fun t => decide (0 ≤ t.2)) = true → 0 ≤ d → 0 ≤ Op.lookupswitch.offset ps d x := by
  intro ps
  induction ps with
  | nil => intro _ h; exact h
  | cons o r ih =>
    intro h hd
    obtain ⟨a, b⟩ := o
    rw [List.all_cons, Bool.and_eq_true, decide_eq_true_eq] at h
    rw [Op.lookupswitch.offset_cons]
    split
    · exact h.1
    · exact ih h.2 hd
section AmBranch
variable {p : Program} {l : Launch} {e : Env} {R : Room} {s : State} {m : MethodId} {args : Array Value} {below : List Frame} {meth : Method} {c : Code} {H : Heap} {locs : List Loc} {cells slots : Nat} {Q : State → Prop}
variable {cc : ByteArray} {pc len mi ow : Nat} {ls : Array Slot} {st : List Value} {X : am_X} {lv : am_L} {i i0 : Instr} {h : am_H}
theorem am_t {pc : Nat} {t : Int} (h : 0 ≤ t) : (pc : Int) + (t - pc) = ((t.toNat : Nat) : Int) := by
  rw [Int.toNat_of_nonneg h]
  omega
theorem am_br_ok (hx : p.tables.exec = Jvm.exec) (hb : c.code = cc) (hX : am_inj X) {pc' : Nat} {st' : List Value} (e1 : am_br i (pc + len) st h = some (pc', st')) (hd : decode cc pc = .ok (i0, len)) (hck : am_ck ow pc i len i0 = true)
    (kk : W p l e R s m args below meth c H locs cells slots Q (F0 m pc' ls (st'.map (am_v X)))) : W p l e R s m args below meth c H locs cells slots Q (F0 m pc ls (st.map (am_v X))) := by
  unfold am_br at e1
  split at e1
  · simp only [am_ck, Bool.and_eq_true, decide_eq_true_eq] at hck
    obtain ⟨⟨rfl, rfl⟩, h0⟩ := hck
    cases e1
    exact lv_goto hx hb hd (am_t h0) kk
  · rename_i cnd t
    simp only [am_ck, Bool.and_eq_true, decide_eq_true_eq] at hck
    obtain ⟨⟨rfl, rfl⟩, h0⟩ := hck
    split at e1
    · cases e1
      cases cnd <;> dsimp only at kk
      · exact lv_if_eq hx hb hd (am_t h0) (fun q => by rw [if_pos q] at kk; exact kk) (fun q => by rw [if_neg q] at kk; exact kk)
      · exact lv_if_ne hx hb hd (am_t h0) (fun q => by rw [if_pos q] at kk; exact kk) (fun q => by rw [if_neg (not_not_intro q)] at kk; exact kk)
      · exact lv_if_lt hx hb hd (am_t h0) (fun q => by rw [if_pos q] at kk; exact kk) (fun q => by rw [if_neg q] at kk; exact kk)
      · exact lv_if_ge hx hb hd (am_t h0) (fun q => by rw [if_pos q] at kk; exact kk) (fun q => by rw [if_neg q] at kk; exact kk)
      · exact lv_if_gt hx hb hd (am_t h0) (fun q => by rw [if_pos q] at kk; exact kk) (fun q => by rw [if_neg q] at kk; exact kk)
      · exact lv_if_le hx hb hd (am_t h0) (fun q => by rw [if_pos q] at kk; exact kk) (fun q => by rw [if_neg q] at kk; exact kk)
    · cases e1
  · rename_i cnd t
    simp only [am_ck, Bool.and_eq_true, decide_eq_true_eq] at hck
    obtain ⟨⟨rfl, rfl⟩, h0⟩ := hck
    split at e1
    · cases e1
      cases cnd <;> dsimp only at kk
      · exact lv_icmp_eq hx hb hd (am_t h0) (fun q => by rw [if_pos q] at kk; exact kk) (fun q => by rw [if_neg q] at kk; exact kk)
      · exact lv_icmp_ne hx hb hd (am_t h0) (fun q => by rw [if_pos q] at kk; exact kk) (fun q => by rw [if_neg (not_not_intro q)] at kk; exact kk)
      · exact lv_icmp_lt hx hb hd (am_t h0) (fun q => by rw [if_pos q] at kk; exact kk) (fun q => by rw [if_neg q] at kk; exact kk)
      · exact lv_icmp_ge hx hb hd (am_t h0) (fun q => by rw [if_pos q] at kk; exact kk) (fun q => by rw [if_neg q] at kk; exact kk)
      · exact lv_icmp_gt hx hb hd (am_t h0) (fun q => by rw [if_pos q] at kk; exact kk) (fun q => by rw [if_neg q] at kk; exact kk)
      · exact lv_icmp_le hx hb hd (am_t h0) (fun q => by rw [if_pos q] at kk; exact kk) (fun q => by rw [if_neg q] at kk; exact kk)
    · cases e1
  · rename_i cnd t
    simp only [am_ck, Bool.and_eq_true, decide_eq_true_eq] at hck
    obtain ⟨⟨rfl, rfl⟩, h0⟩ := hck
    split at e1
    · rename_i w v r
      split at e1
      · rename_i x y hx1 hy1
        cases e1
        show W p l e R s m args below meth c H locs cells slots Q (F0 m pc ls (am_v X w :: am_v X v :: _))
        rw [am_rf_v hx1, am_rf_v hy1]
        cases cnd <;> dsimp only at kk
        · exact lv_acmp_eq hx hb hd (am_t h0) (fun q => by rw [if_pos (am_rf_eq hX hx1 hy1 q)] at kk; exact kk) (fun q => by rw [if_neg (fun z => q (by rw [z]))] at kk; exact kk)
        · exact lv_acmp_ne hx hb hd (am_t h0) (fun q => by rw [if_pos (fun z => q (by rw [z]))] at kk; exact kk) (fun q => by rw [if_neg (not_not_intro (am_rf_eq hX hx1 hy1 q))] at kk; exact kk)
      · cases e1
    · cases e1
  · rename_i t
    simp only [am_ck, Bool.and_eq_true, decide_eq_true_eq] at hck
    obtain ⟨⟨rfl, rfl⟩, h0⟩ := hck
    split at e1
    · cases e1; exact lv_ifnullN hx hb hd (am_t h0) kk
    · cases e1; exact lv_ifnull hx hb hd kk
    · cases e1
  · rename_i t
    simp only [am_ck, Bool.and_eq_true, decide_eq_true_eq] at hck
    obtain ⟨⟨rfl, rfl⟩, h0⟩ := hck
    split at e1
    · cases e1; exact lv_ifnonnullN hx hb hd kk
    · cases e1; exact lv_ifnonnull hx hb hd (am_t h0) kk
    · cases e1
  · rename_i d lo hi ts
    simp only [am_ck] at hck
    split at hck
    · rename_i d0 lo0 hi0 os
      simp only [Bool.and_eq_true, decide_eq_true_eq] at hck
      obtain ⟨⟨⟨⟨⟨rfl, rfl⟩, hdd⟩, hd0⟩, hos⟩, hts⟩ := hck
      split at e1
      · rename_i x r
        split at e1
        · rename_i hout
          cases e1
          exact lv_tableOut hx hb hd hout (by rw [hdd, Int.toNat_of_nonneg hd0]) kk
        · rename_i hin
          have hlo : ¬ x.toInt < lo0 := fun q => hin (Or.inl q)
          have hhi : ¬ hi0 < x.toInt := fun q => hin (Or.inr q)
          cases ht : ts[(x.toInt - lo0).toNat]? with
          | none => rw [ht] at e1; cases e1
          | some t =>
            rw [ht] at e1
            simp only [Option.map_some, Option.some.injEq, Prod.mk.injEq] at e1
            obtain ⟨rfl, rfl⟩ := e1
            have ht2 : ts.toList[(x.toInt - lo0).toNat]? = some t := by rw [Array.getElem?_toList]; exact ht
            have h0 : 0 ≤ t := by
              have := List.all_eq_true.mp hts t (List.mem_of_getElem? ht2)
              simpa using this
            rw [← hos, List.getElem?_map] at ht2
            cases ho : os.toList[(x.toInt - lo0).toNat]? with
            | none => rw [ho] at ht2; cases ht2
            | some o =>
              rw [ho] at ht2
              simp only [Option.map_some, Option.some.injEq] at ht2
              exact lv_tableIn hx hb hd hlo hhi (off := o) (by rw [← Array.getElem?_toList]; exact ho) (by rw [ht2, Int.toNat_of_nonneg h0]) kk
      · cases e1
    · cases hck
  · rename_i d ps
    simp only [am_ck] at hck
    split at hck
    · rename_i d0 os
      simp only [Bool.and_eq_true, decide_eq_true_eq] at hck
      obtain ⟨⟨⟨⟨hdd, hd0⟩, hos⟩, hps⟩, hord⟩ := hck
      split at e1
      · rename_i x r
        cases e1
        refine lv_lookup hx hb hd hord rfl ?_ kk
        rw [← hdd, am_off (pc : Int) os.toList ps.toList hos, Int.toNat_of_nonneg]
        rw [← am_off (pc : Int) os.toList ps.toList hos, hdd]
        exact am_off_pos ps.toList hps hd0
      · cases e1
    · cases hck
  · cases e1
end AmBranch
end
section
/-! Instructions that read, write or make cells. What they lean on, at the state s with which the method began: am_Fx. -/
/-- a cell as a read sees it -/
def am_RR (X : am_X) (s : State) (c : am_C) (cell : Cell) : Prop := match c with
  | .inl (ci, fs) => cell.vm ≠ .unknown ∧ cell.vm.isStatics = false ∧ s.vm.findClass (am_cn ci) = some cell.cls ∧ ∀ (k f : Nat) (v : Value), (am_lay ci)[k]? = some f → fs[k]? = some v → cell.slots[X.2.2.2.1 f]? = some (am_v X v)
  | .inr (t, xs) => s.isArrayOf cell (am_ty t) ∧ cell.vm ≠ .unknown ∧ xs.length ≤ cell.slots.size ∧ cell.slots.size.toInt32 = Int32.ofNat xs.length ∧ ∀ (j : Nat) (v : Value), xs[j]? = some v → cell.slots[j]? = some (am_v X v)
/-- a class whose objects are made -/
def am_CF (X : am_X) (s : State) (ci : Nat) : Prop := s.vm.findClass (am_cn ci) = some (X.2.2.1 ci) ∧ ∃ kC : Class, s.vm.classes[X.2.2.1 ci]? = some kC ∧ kC.kind = .ordinary ∧ (∀ (k f : Nat), (am_lay ci)[k]? = some f → kC.instanceTypes[X.2.2.2.1 f]? = some (am_fty f)) ∧
  ∀ (j k f g : Nat), (am_lay ci)[j]? = some f → (am_lay ci)[k]? = some g → j ≠ k → X.2.2.2.1 f ≠ X.2.2.2.1 g
/-- an array class -/
def am_AF (X : am_X) (s : State) (t : Nat) : Prop := ArrOfT s (X.2.2.2.2.1 t) (am_ty t) ∧ s.vm.findClass ("[" ++ (am_ty t).toString) = some (X.2.2.2.2.1 t) ∧ (4 ≤ t → am_ty t = .object (am_en t) ∧ ∃ (kA : Class) (comp : ClassId), s.vm.classes[X.2.2.2.2.1 t]? = some kA ∧ kA.kind = .array comp (.object (am_en t)) ∧ s.vm.findClass (am_en t) = some comp)
/-- a field's link -/
def am_FL (X : am_X) (s : State) (ow k f : Nat) : Prop := ∃ (ref nm ds host : String) (cf i : Nat) (kc : Class) (fd : Field), s.fieldFound? ref nm ds = some (cf, kc, i, fd) ∧ fd.isStatic = false ∧ fd.slot = X.2.2.2.1 f ∧ fd.type = am_fty f ∧
  (∀ args, (Cond.fieldLink (am_ow ow) k ref nm ds).before args s = true ∨ (Cond.fieldLinkNest (am_ow ow) k ref nm ds host).before args s = true) ∧ (am_pl ow k = true → hasFlag fd.accessFlags Acc.final = false ∨ (am_fin f = true ∧ s.vm.findClass (am_ow ow) = some cf))
/-- a static field that nobody writes -/
def am_GL (X : am_X) (s : State) (ow k f : Nat) : Prop := ∃ (ref nm ds host : String) (cf i : Nat) (kc : Class) (fd : Field) (a : Nat) (cell : Cell) (v : Value), am_gst f = some v ∧ s.fieldFound? ref nm ds = some (cf, kc, i, fd) ∧ fd.isStatic = true ∧ kc.init = .initialized ∧ kc.statics = some a ∧ a < X.2.1 ∧ s.heap[a]? = some cell ∧ cell.vm ≠ .unknown ∧ cell.slots[fd.slot]? = some (am_v X v) ∧
  (∀ args, (Cond.fieldLink (am_ow ow) k ref nm ds).before args s = true ∨ (Cond.fieldLinkNest (am_ow ow) k ref nm ds host).before args s = true)
def am_NK (s : State) (ow k ci : Nat) : Prop := am_own ci = true ∧ ∀ args, (Cond.classLink (am_ow ow) k (am_cn ci)).before args s = true ∧ (Cond.instantiable (am_cn ci) (am_N ci)).before args s = true ∧ (Cond.initialized (am_cn ci)).before args s = true
def am_AL (s : State) (ow k t : Nat) : Prop := am_oka t = true ∧ 4 ≤ t ∧ am_ty t = .object (am_en t) ∧ ∀ args, (Cond.classLink (am_ow ow) k (am_en t)).before args s = true ∧ (Cond.arrayOver (.object (am_en t))).before args s = true
def am_Fx (X : am_X) (s : State) : Prop :=
  (∀ (k : Nat) (c : am_C), am_stat[k]? = some c → ∃ cell, s.heap[X.1 k]? = some cell ∧ am_RR X s c cell) ∧
  (∀ ci, am_own ci = true → am_CF X s ci) ∧
  (∀ t, am_oka t = true → am_AF X s t) ∧
  (∀ ow k f, am_fl ow k = some f → am_FL X s ow k f) ∧
  (∀ ow k f, am_gl ow k = some f → am_GL X s ow k f) ∧
  (∀ ow k ci, am_nl ow k = some ci → am_NK s ow k ci) ∧
  (∀ ow k t, am_al ow k = some t → am_AL s ow k t) ∧
  (∀ ci t, am_cast ci t = true → ∃ c1 c2 : ClassId, s.vm.findClass (am_cn ci) = some c1 ∧ s.vm.findClass (am_en t) = some c2 ∧ s.vm.assignable c1 c2 = true) ∧
  (∀ mi k v, am_lc mi k = some v → ∀ args, (Jvm.Cond.constantLong (am_ow (am_mo mi)) k v).before args s = true) ∧
  (X.2.2.2.2.2.1 < X.2.1 ∧ ∃ cell, s.heap[X.2.2.2.2.2.1]? = some cell ∧ am_RR X s (am_scr X) cell) ∧
  (∀ args, (Cond.arrayClass .int).before args s = true ∧ (Cond.arrayClass .char).before args s = true ∧ (Cond.arrayClass .long).before args s = true)
/-- the cells of the start stand as they stood -/
def am_old (X : am_X) (s : State) (H : Heap) : Prop := ∀ q : Nat, q < X.2.1 → H[q]? = s.heap[q]?
theorem am_look {X : am_X} {s : State} {h : am_H} {H : Heap} (hF : am_Fx X s) (hI : am_inj X) (hP : am_P X h H) (ho : am_old X s H) {a : Nat} {c : am_C} (e : am_at h a = some c) : ∃ cell, H[am_ph X a]? = some cell ∧ am_RR X s c cell := by
  unfold am_at at e
  split at e
  · rename_i ha
    obtain ⟨cell, q1, q2⟩ := hF.1 a c e
    refine ⟨cell, ?_, q2⟩
    rw [am_ph, if_pos ha, ho _ (hI.1 a (List.getElem?_eq_some_iff.mp e).1)]
    exact q1
  · rename_i ha
    by_cases ha0 : a = 1000
    · subst ha0
      have e0 : h[0]? = some c := e
      rw [hP.1] at e0
      cases e0
      obtain ⟨g1, cell, g2, g3⟩ := hF.2.2.2.2.2.2.2.2.2.1
      refine ⟨cell, ?_, g3⟩
      rw [am_ph, if_neg ha, if_pos rfl, ho _ g1]
      exact g2
    have e' : h[(a - 1001) + 1]? = some c := by rw [show a - 1001 + 1 = a - 1000 by omega]; exact e
    obtain ⟨cell, q1, q2⟩ := hP.2.2 _ c e'
    refine ⟨cell, by rw [am_ph, if_neg ha, if_neg ha0]; exact q1, ?_⟩
    rcases c with ⟨ci, fs⟩ | ⟨t, xs⟩
    · obtain ⟨z1, z2, z3, z4⟩ := q2
      refine ⟨by rw [z3]; exact (fun q => by cases q), by rw [z3]; rfl, ?_, z4⟩
      rw [z2]
      exact (hF.2.1 ci z1).1
    · obtain ⟨z1, z2⟩ := q2
      subst z2
      refine ⟨(hF.2.2.1 t z1).1 _ _, (fun q => by cases q), by rw [arrV_size]; exact Nat.le_refl _, by rw [arrV_size] <;> rfl, fun j v hj => ?_⟩
      have hlt := (List.getElem?_eq_some_iff.mp hj).1
      rw [arrV_read _ _ hlt]
      simp [List.getD_eq_getElem?_getD, hj]
section AmHeap
variable {p : Program} {l : Launch} {e : Env} {R : Room} {s : State} {m : MethodId} {args : Array Value} {below : List Frame} {meth : Method} {c : Code} {H : Heap} {locs : List Loc} {cells slots : Nat} {Q : State → Prop}
variable {cc : ByteArray} {pc len mi ow : Nat} {ls : Array Slot} {st : List Value} {X : am_X} {lv : am_L} {i i0 : Instr} {h : am_H}
theorem am_ix_ok {j : Int32} {n z : Nat} (e : am_ix j n = true) (h : n ≤ z) : ¬ (j < 0 ∨ z ≤ j.toNatClampNeg) := by
  unfold am_ix at e
  rw [decide_eq_true_eq] at e
  exact fun q => e (q.elim Or.inl (fun w => Or.inr (Nat.le_trans h w)))
/-- an element of an array of numbers -/
theorem am_el_inv {t : Nat} {st' : List Value} (e1 : am_el t st h = some st') : ∃ (j : Int32) (a : Nat) (r xs : List Value) (v : Value), st = .int j :: .ref a :: r ∧ am_at h a = some (.inr (t, xs)) ∧ am_ix j xs.length = true ∧ xs[j.toNatClampNeg]? = some v ∧ st' = v :: r := by
  unfold am_el at e1
  split at e1
  · rename_i j a r
    split at e1
    · rename_i t' xs hat
      split at e1
      · rename_i hc
        obtain ⟨rfl, hix⟩ := hc
        cases hv : xs[j.toNatClampNeg]? with
        | none => rw [hv] at e1; cases e1
        | some v =>
          rw [hv] at e1
          simp only [Option.map_some, Option.some.injEq] at e1
          exact ⟨j, a, r, xs, v, rfl, hat, hix, hv, e1.symm⟩
      · cases e1
    · cases e1
  · cases e1
theorem am_rd_ok (hx : p.tables.exec = Jvm.exec) (hb : c.code = cc) (hF : am_Fx X s) (hI : am_inj X) (hP : am_P X h H) (ho : am_old X s H) (hown : s.vm.findClass (am_ow ow) = some m.cls) {st' : List Value} (e1 : am_rd mi i st h = some st') (hd : decode cc pc = .ok (i0, len)) (hck : am_ck ow pc i len i0 = true)
    (kk : W p l e R s m args below meth c H locs cells slots Q (F0 m (pc + len) ls (st'.map (am_v X)))) : W p l e R s m args below meth c H locs cells slots Q (F0 m pc ls (st.map (am_v X))) := by
  unfold am_rd at e1
  split at e1
  · simp only [am_ck, Bool.and_eq_true, decide_eq_true_eq] at hck
    obtain ⟨rfl, hck⟩ := hck
    simp only [am_len] at hck
    subst hck
    split at e1
    · rename_i a r
      split at e1
      · rename_i t xs hat
        cases e1
        obtain ⟨cell, q1, z1, z2, z3, z4, z5⟩ := am_look hF hI hP ho hat
        exact W.alen hx hb q1 z1 z4 rfl rfl hd kk
      · cases e1
    · cases e1
  · simp only [am_ck, Bool.and_eq_true, decide_eq_true_eq] at hck
    obtain ⟨rfl, hck⟩ := hck
    simp only [am_len] at hck
    subst hck
    obtain ⟨j, a, r, xs, v, rfl, hat, hix, hv, rfl⟩ := am_el_inv e1
    obtain ⟨cell, q1, z1, z2, z3, z4, z5⟩ := am_look hF hI hP ho hat
    exact W.iald hx hb q1 z1 z2 (am_ix_ok hix z3) (z5 _ _ hv) rfl rfl hd kk
  · simp only [am_ck, Bool.and_eq_true, decide_eq_true_eq] at hck
    obtain ⟨rfl, hck⟩ := hck
    simp only [am_len] at hck
    subst hck
    obtain ⟨j, a, r, xs, v, rfl, hat, hix, hv, rfl⟩ := am_el_inv e1
    obtain ⟨cell, q1, z1, z2, z3, z4, z5⟩ := am_look hF hI hP ho hat
    exact W.cald hx hb q1 z1 z2 (am_ix_ok hix z3) (z5 _ _ hv) rfl rfl hd kk
  · simp only [am_ck, Bool.and_eq_true, decide_eq_true_eq] at hck
    obtain ⟨rfl, hck⟩ := hck
    simp only [am_len] at hck
    subst hck
    obtain ⟨j, a, r, xs, v, rfl, hat, hix, hv, rfl⟩ := am_el_inv e1
    obtain ⟨cell, q1, z1, z2, z3, z4, z5⟩ := am_look hF hI hP ho hat
    exact W.bald hx hb q1 z1 z2 (am_ix_ok hix z3) (z5 _ _ hv) rfl rfl hd kk
  · simp only [am_ck, Bool.and_eq_true, decide_eq_true_eq] at hck
    obtain ⟨rfl, hck⟩ := hck
    simp only [am_len] at hck
    subst hck
    obtain ⟨j, a, r, xs, v, rfl, hat, hix, hv, rfl⟩ := am_el_inv e1
    obtain ⟨cell, q1, z1, z2, z3, z4, z5⟩ := am_look hF hI hP ho hat
    exact W.lald hx hb q1 z1 z2 (am_ix_ok hix z3) (z5 _ _ hv) rfl rfl hd kk
  · simp only [am_ck, Bool.and_eq_true, decide_eq_true_eq] at hck
    obtain ⟨rfl, hck⟩ := hck
    simp only [am_len] at hck
    subst hck
    split at e1
    · rename_i j a r
      split at e1
      · rename_i t xs hat
        split at e1
        · rename_i hc
          cases hv : xs[j.toNatClampNeg]? with
          | none => rw [hv] at e1; cases e1
          | some v =>
            rw [hv] at e1
            simp only [Option.map_some, Option.some.injEq] at e1
            subst e1
            obtain ⟨cell, q1, z1, z2, z3, z4, z5⟩ := am_look hF hI hP ho hat
            exact W.aald hx hb q1 z1 (am_ty_ref hc.1) z2 (am_ix_ok hc.2 z3) (z5 _ _ hv) rfl rfl hd kk
        · cases e1
      · cases e1
    · cases e1
  · rename_i f
    simp only [am_ck] at hck
    split at hck
    · rename_i k
      simp only [Bool.and_eq_true, decide_eq_true_eq] at hck
      obtain ⟨hfl, rfl⟩ := hck
      split at e1
      · rename_i a r
        split at e1
        · rename_i ci fs hat
          split at e1
          · rename_i j hj
            cases hv : fs[j]? with
            | none => rw [hv] at e1; cases e1
            | some v =>
              rw [hv] at e1
              simp only [Option.map_some, Option.some.injEq] at e1
              subst e1
              obtain ⟨cell, q1, z1, z2, z3, z4⟩ := am_look hF hI hP ho hat
              obtain ⟨ref, nm, ds, host, cf, fi, kc, fd, g1, g2, g3, g4, g5, g6⟩ := hF.2.2.2.1 ow k f hfl
              have hs : cell.slots[fd.slot]? = some (am_v X v) := by rw [g3]; exact z4 j f v (am_pos_ok hj) hv
              rcases g5 args with g5 | g5
              · exact W.getf hx hb hown g5 g1 g2 q1 z1 hs rfl rfl hd kk
              · exact va_Wgetf hx hb hown g5 g1 g2 q1 z1 hs rfl rfl hd kk
          · cases e1
        · cases e1
      · cases e1
    · cases hck
  · rename_i f
    simp only [am_ck] at hck
    split at hck
    · rename_i k
      simp only [Bool.and_eq_true, decide_eq_true_eq] at hck
      obtain ⟨hgl, rfl⟩ := hck
      obtain ⟨ref, nm, ds, host, cf, fi, kc, fd, a, cell, v, g0, g1, g2, g3, g4, g5, g6, g7, g8, g9⟩ := hF.2.2.2.2.1 ow k f hgl
      rw [g0] at e1
      cases e1
      rcases g9 args with g9 | g9
      · exact W.gets hx hb hown g9 g1 g2 g3 g4 (by rw [ho a g5]; exact g6) g7 g8 rfl hd kk
      · exact va_WgetsN hx hb hown g9 g1 g2 g3 g4 (by rw [ho a g5]; exact g6) g7 g8 rfl hd kk
    · cases hck
  · cases e1
end AmHeap
end
section
/-! Stores into cells, new cells. -/
theorem am_fits (X : am_X) (ty : FieldType) (v : Value) : fits ty (am_v X v) = fits ty v := by
  cases v <;> cases ty <;> rfl
theorem am_narrow {ty : FieldType} {v : Value} (h : fits ty v = true) : narrow ty v = v := by
  cases ty <;> cases v <;> first | rfl | (simp [fits] at h; done) | skip
  · rename_i x
    simp only [fits, Bool.and_eq_true, decide_eq_true_eq] at h
    show Value.int _ = Value.int _
    congr 1
    have h1 := Int32.le_iff_toInt_le.mp h.1
    have h2 := Int32.le_iff_toInt_le.mp h.2
    rw [show (-128 : Int32).toInt = -128 from rfl] at h1
    rw [show (127 : Int32).toInt = 127 from rfl] at h2
    apply Int32.toInt_inj.mp
    rw [Int8.toInt_toInt32, Int32.toInt_toInt8]
    exact Int.bmod_eq_of_le (by omega) (by omega)
  · rename_i x
    simp only [fits, Bool.and_eq_true, decide_eq_true_eq] at h
    show Value.int _ = Value.int _
    congr 1
    have h1 := Int32.le_iff_toInt_le.mp h.1
    have h2 := Int32.le_iff_toInt_le.mp h.2
    rw [show (0 : Int32).toInt = 0 from rfl] at h1
    rw [show (65535 : Int32).toInt = 65535 from rfl] at h2
    rw [← lg_i2c_nf]
    exact lg_i2c_word h1 (by omega)
  · rename_i x
    simp only [fits, Bool.and_eq_true, decide_eq_true_eq] at h
    show Value.int _ = Value.int _
    congr 1
    have h1 := Int32.le_iff_toInt_le.mp h.1
    have h2 := Int32.le_iff_toInt_le.mp h.2
    rw [show (-32768 : Int32).toInt = -32768 from rfl] at h1
    rw [show (32767 : Int32).toInt = 32767 from rfl] at h2
    apply Int32.toInt_inj.mp
    rw [Int16.toInt_toInt32, Int32.toInt_toInt16]
    exact Int.bmod_eq_of_le (by omega) (by omega)
  · rename_i x
    simp only [fits, Bool.or_eq_true, beq_iff_eq] at h
    rcases h with rfl | rfl <;> rfl
theorem am_set_inv {h h' : am_H} {a : Nat} {c : am_C} (e : am_set h a c = some h') : 1001 ≤ a ∧ a - 1000 < h.length ∧ h' = h.set (a - 1000) c := by
  unfold am_set at e
  split at e
  · rename_i hc
    cases e
    exact ⟨hc.1, hc.2, rfl⟩
  · cases e
theorem am_at_own {h : am_H} {a : Nat} {c : am_C} (ha : 1001 ≤ a) (e : am_at h a = some c) : h[a - 1000]? = some c := by
  unfold am_at at e
  rw [if_neg (by omega)] at e
  exact e
theorem am_ph_own {X : am_X} {a : Nat} (ha : 1001 ≤ a) : am_ph X a = X.2.1 + (a - 1001) := by
  unfold am_ph
  rw [if_neg (by omega), if_neg (by omega)]
theorem am_own_ix {h : am_H} {a : Nat} {c : am_C} (ha : 1001 ≤ a) (e : h[a - 1000]? = some c) : h[(a - 1001) + 1]? = some c := by
  rw [show a - 1001 + 1 = a - 1000 by omega]
  exact e
theorem am_own_set {h : am_H} {a : Nat} {c : am_C} (ha : 1001 ≤ a) : h.set (a - 1000) c = h.set ((a - 1001) + 1) c := by
  rw [show a - 1001 + 1 = a - 1000 by omega]
theorem am_sz_set {h : am_H} {k : Nat} {c c' : am_C} (e : h[k]? = some c) (hc : am_cs c' = am_cs c) : am_sz (h.set k c') = am_sz h := by
  unfold am_sz
  rw [List.map_set, hc]
  have : (List.map am_cs h).set k (am_cs c) = List.map am_cs h := by
    apply List.ext_getElem?
    intro j
    by_cases hj : j = k
    · subst hj
      have hl := (List.getElem?_eq_some_iff.mp e).1
      rw [List.getElem?_set_self (by simpa using hl), List.getElem?_map, e]
      rfl
    · rw [List.getElem?_set_ne (fun q => hj q.symm)]
  rw [this]
section AmWrite
variable {p : Program} {l : Launch} {e : Env} {R : Room} {s : State} {m : MethodId} {args : Array Value} {below : List Frame} {meth : Method} {c : Code} {H : Heap} {locs : List Loc} {cells slots : Nat} {Q : State → Prop}
variable {cc : ByteArray} {pc len mi ow : Nat} {ls : Array Slot} {st : List Value} {X : am_X} {lv : am_L} {i i0 : Instr} {h : am_H}
theorem am_old.set {H' : Heap} {a : Nat} (ho : am_old X s H) (ha : X.2.1 ≤ a) (hq : ∀ q, q ≠ a → H'[q]? = H[q]?) : am_old X s H' := fun q h1 => by
  rw [hq q (by omega)]
  exact ho q h1
theorem am_old.push {H' : Heap} (ho : am_old X s H) (ha : X.2.1 ≤ H.size) (hq : ∀ q, q < H.size → H'[q]? = H[q]?) : am_old X s H' := fun q h1 => by
  rw [hq q (by omega)]
  exact ho q h1
theorem am_arr_set {t : Nat} {xs : List Value} {j : Nat} {v : Value} {cell : Cell} (hj : j < xs.length) (hc : am_RC X (.inr (t, xs)) cell) : am_RC X (.inr (t, xs.set j v)) (cell.setSlot j (am_v X v)) := by
  obtain ⟨h1, h2⟩ := hc
  refine ⟨h1, ?_⟩
  subst h2
  rw [arrV_store, List.length_set]
  congr 1
  funext q
  unfold updV
  by_cases hq : q = j
  · subst hq
    simp [List.getD_eq_getElem?_getD, hj]
  · rw [if_neg hq]
    simp [List.getD_eq_getElem?_getD, List.getElem?_set_ne (fun z => hq z.symm)]
theorem am_wr_ok (hx : p.tables.exec = Jvm.exec) (hb : c.code = cc) (hF : am_Fx X s) (hI : am_inj X) (hP : am_P X h H) (ho : am_old X s H) (hl : ∀ q ∈ locs, X.2.1 ≤ q.base) (hown : s.vm.findClass (am_ow ow) = some m.cls) (hini : am_ini mi = true → meth.name = "<init>") {st' : List Value} {h' : am_H} (e1 : am_wr mi i st h = some (st', h')) (hd : decode cc pc = .ok (i0, len)) (hck : am_ck ow pc i len i0 = true)
    (hpl : ∀ k, i0 = .putfield k → am_pl ow k = true)
    (kk : ∀ (H' : Heap) (locs' : List Loc), am_P X h' H' → am_old X s H' → (∀ q ∈ locs', X.2.1 ≤ q.base) → h'.length = h.length → am_sz h' = am_sz h → W p l e R s m args below meth c H' locs' cells slots Q (F0 m (pc + len) ls (st'.map (am_v X)))) : W p l e R s m args below meth c H locs cells slots Q (F0 m pc ls (st.map (am_v X))) := by
  have hll : ∀ {a j : Nat}, 1001 ≤ a → ∀ q ∈ locs ++ [(⟨am_ph X a, j⟩ : Loc)], X.2.1 ≤ q.base := by
    intro a j ha q hq
    rcases List.mem_append.mp hq with h1 | h1
    · exact hl q h1
    · rw [List.mem_singleton] at h1
      subst h1
      show X.2.1 ≤ am_ph X a
      rw [am_ph_own ha]
      omega
  unfold am_wr at e1
  split at e1
  · rename_i f
    simp only [am_ck] at hck
    split at hck
    · rename_i k
      simp only [Bool.and_eq_true, decide_eq_true_eq] at hck
      obtain ⟨hfl, rfl⟩ := hck
      split at e1
      · rename_i v a r
        split at e1
        · rename_i ci fs hat
          split at e1
          · rename_i j hj
            split at e1
            · rename_i hc
              obtain ⟨hlt, hfit, hfin⟩ := hc
              cases hs : am_set h a (.inl (ci, fs.set j v)) with
              | none => rw [hs] at e1; cases e1
              | some h2 =>
                rw [hs] at e1
                simp only [Option.map_some, Option.some.injEq, Prod.mk.injEq] at e1
                obtain ⟨rfl, rfl⟩ := e1
                obtain ⟨ha, hal, rfl⟩ := am_set_inv hs
                have hat2 := am_at_own ha hat
                obtain ⟨cell, q1, z1, z2, z3, z4⟩ := hP.2.2 _ _ (am_own_ix ha hat2)
                rw [← am_ph_own ha] at q1
                obtain ⟨ref, nm, ds, host, cf, fi, kc, fd, g1, g2, g3, g4, g5, g6⟩ := hF.2.2.2.1 ow k f hfl
                obtain ⟨c1, kC, c2, c3, c4, c5⟩ := hF.2.1 ci z1
                have hlay := am_pos_ok hj
                obtain ⟨v0, hv0⟩ : ∃ v0, fs[j]? = some v0 := ⟨_, List.getElem?_eq_getElem hlt⟩
                have hslot : cell.slots[fd.slot]? = some (am_v X v0) := by rw [g3]; exact z4 j f v0 hlay hv0
                have hslt : fd.slot < cell.slots.size := (Array.getElem?_eq_some_iff.mp hslot).1
                have hfit2 : fits (am_fty f) (am_v X v) = true := by rw [am_fits]; exact hfit
                have hnar : narrow fd.type (am_v X v) = am_v X v := by rw [g4]; exact am_narrow hfit2
                have hfs : s.fitsSlot cell.cls cell.vm fd.slot (am_v X v) = true := by
                  rw [z2, z3, g3]
                  exact fresh_fits (s := s) (U := s) (Vm.Alike.refl _) c2 c3 (c4 j f hlay) hfit2
                have hfin2 : hasFlag fd.accessFlags Acc.final = false ∨ (m.cls = cf ∧ meth.name = "<init>") := by
                  rcases g6 (hpl k rfl) with g6 | ⟨g6, g7⟩
                  · exact Or.inl g6
                  · exact Or.inr ⟨Option.some.inj (hown.symm.trans g7), hini (hfin g6)⟩
                have hnew : am_RC X (.inl (ci, fs.set j v)) (cell.setSlot fd.slot (am_v X v)) := by
                  refine ⟨z1, z2, z3, fun j' f' v' hj' hv' => ?_⟩
                  by_cases hjj : j' = j
                  · subst hjj
                    rw [List.getElem?_set_self hlt] at hv'
                    cases hv'
                    cases hlay.symm.trans hj'
                    rw [← g3]
                    exact Cell.slots_setSlot_self _ hslt
                  · rw [List.getElem?_set_ne (fun z => hjj z.symm)] at hv'
                    rw [slot_ne _ _ (by rw [g3]; exact fun z => c5 j j' f f' hlay hj' (fun w => hjj w.symm) z)]
                    exact z4 j' f' v' hj' hv'
                have hlt2 : am_ph X a < H.size := (Array.getElem?_eq_some_iff.mp q1).1
                have hset : (H.setIfInBounds (am_ph X a) (cell.setSlot fd.slot (am_v X v)))[am_ph X a]? = some (cell.setSlot fd.slot (am_v X v)) := by simp [Array.getElem?_setIfInBounds, hlt2]
                have hoth : ∀ q, q ≠ am_ph X a → (H.setIfInBounds (am_ph X a) (cell.setSlot fd.slot (am_v X v)))[q]? = H[q]? := fun q hq => by simp [Array.getElem?_setIfInBounds, Ne.symm hq]
                have hk := kk (H.setIfInBounds (am_ph X a) (cell.setSlot fd.slot (am_v X v))) (locs ++ [(⟨am_ph X a, fd.slot⟩ : Loc)])
                  (by rw [am_own_set ha]; exact hP.set (by omega) (by rw [← am_ph_own ha]; exact hset) (by simp) (by rw [← am_ph_own ha]; exact hoth) hnew) (ho.set (by rw [am_ph_own ha]; omega) hoth) (hll ha) List.length_set (am_sz_set hat2 rfl)
                rcases g5 args with g5 | g5
                · exact W.putf hx hb hown g5 g1 g2 hfin2 q1 (by rw [z3]; exact fun q => by cases q) hslt hnar hfs rfl rfl hd hk
                · exact va_Wputf hx hb hown g5 g1 g2 hfin2 q1 (by rw [z3]; exact fun q => by cases q) hslt hnar hfs rfl rfl hd hk
            · cases e1
          · cases e1
        · cases e1
      · cases e1
    · cases hck
  · split at e1
    · cases e1
    · rename_i k hk
      split at e1
      · rename_i v j a r
        split at e1
        · rename_i t xs hat
          split at e1
          · rename_i hc
            obtain ⟨hkind, hix, hok⟩ := hc
            cases hs : am_set h a (.inr (t, xs.set j.toNatClampNeg v)) with
            | none => rw [hs] at e1; cases e1
            | some h2 =>
              rw [hs] at e1
              simp only [Option.map_some, Option.some.injEq, Prod.mk.injEq] at e1
              obtain ⟨rfl, rfl⟩ := e1
              obtain ⟨ha, hal, rfl⟩ := am_set_inv hs
              have hat2 := am_at_own ha hat
              obtain ⟨cell, q1, z1, z2⟩ := hP.2.2 _ _ (am_own_ix ha hat2)
              rw [← am_ph_own ha] at q1
              have hR : am_RC X (.inr (t, xs)) cell := ⟨z1, z2⟩
              obtain ⟨f1, f2, f3⟩ := hF.2.2.1 t z1
              have hsz : cell.slots.size = xs.length := by rw [z2, arrV_size]
              have hin : ¬ (j < 0 ∨ cell.slots.size ≤ j.toNatClampNeg) := am_ix_ok hix (by rw [hsz]; exact Nat.le_refl _)
              have hjl : j.toNatClampNeg < xs.length := by rw [← hsz]; exact Nat.not_le.mp fun q => hin (Or.inr q)
              have harr : s.isArrayOf cell (am_ty t) := by rw [z2]; exact f1 _ _
              have hkn : cell.vm ≠ .unknown := by rw [z2]; exact fun q => by cases q
              have fin : ∀ (H' : Heap), H'[am_ph X a]? = some (cell.setSlot j.toNatClampNeg (am_v X v)) → H'.size = H.size → (∀ q, q ≠ am_ph X a → H'[q]? = H[q]?) → W p l e R s m args below meth c H' (locs ++ [(⟨am_ph X a, j.toNatClampNeg⟩ : Loc)]) cells slots Q (F0 m (pc + len) ls (r.map (am_v X))) :=
                fun H' e1 e2 e3 => kk H' _ (by rw [am_own_set ha]; exact hP.set (by omega) (by rw [← am_ph_own ha]; exact e1) e2 (by rw [← am_ph_own ha]; exact e3) (am_arr_set hjl hR)) (ho.set (by rw [am_ph_own ha]; omega) e3) (hll ha) List.length_set (am_sz_set hat2 (by simp [am_cs]))
              unfold am_kind at hk
              split at hk
              · cases hk
                simp only [am_ck, Bool.and_eq_true, decide_eq_true_eq] at hck
                obtain ⟨rfl, hck⟩ := hck
                simp only [am_len] at hck
                subst hck
                obtain rfl : t = 0 := by rcases hkind with q | ⟨q, -⟩ <;> omega
                cases v with
                | int x => exact W.iast hx hb q1 harr hkn hin rfl rfl hd fin
                | ref b => simp only [am_ok] at hok; split at hok <;> simp at hok
                | _ => simp [am_ok] at hok
              · cases hk
                simp only [am_ck, Bool.and_eq_true, decide_eq_true_eq] at hck
                obtain ⟨rfl, hck⟩ := hck
                simp only [am_len] at hck
                subst hck
                obtain rfl : t = 1 := by rcases hkind with q | ⟨q, -⟩ <;> omega
                cases v with
                | int x =>
                  have hn : narrow .char (.int x) = .int x := am_narrow (by simp [am_ok] at hok; simp [fits, hok])
                  exact W.cast hx hb q1 harr hkn hin rfl rfl hd (fun H' w1 w2 w3 => fin H' (by rw [w1, hn]; rfl) w2 w3)
                | ref b => simp only [am_ok] at hok; split at hok <;> simp at hok
                | _ => simp [am_ok] at hok
              · cases hk
                simp only [am_ck, Bool.and_eq_true, decide_eq_true_eq] at hck
                obtain ⟨rfl, hck⟩ := hck
                simp only [am_len] at hck
                subst hck
                obtain rfl : t = 3 := by rcases hkind with q | ⟨q, -⟩ <;> omega
                cases v with
                | long x => exact W.last hx hb q1 harr hkn hin rfl rfl hd fin
                | ref b => simp only [am_ok] at hok; split at hok <;> simp at hok
                | _ => simp [am_ok] at hok
              · cases hk
                simp only [am_ck, Bool.and_eq_true, decide_eq_true_eq] at hck
                obtain ⟨rfl, hck⟩ := hck
                simp only [am_len] at hck
                subst hck
                have ht4 : 4 ≤ t := by rcases hkind with q | ⟨-, q⟩ <;> omega
                obtain ⟨f4, kA, comp, f5, f6, f7⟩ := f3 ht4
                cases v with
                | null => exact va_WaastN (C := am_en t) hx hb q1 (by rw [← f4]; exact harr) hkn hin rfl rfl hd fin
                | ref b =>
                  simp only [am_ok] at hok
                  split at hok
                  · rename_i ci fs hbt
                    simp only [Bool.and_eq_true, decide_eq_true_eq] at hok
                    obtain ⟨cellV, v1, v2, v3, v4, -⟩ := am_look hF hI hP ho hbt
                    obtain ⟨cx, ce, w1, w2, w3⟩ := hF.2.2.2.2.2.2.2.1 ci t hok.2
                    cases v4.symm.trans w1
                    cases f7.symm.trans w2
                    obtain ⟨kcomp, hkcomp, -⟩ := Vm.findClass_spec f7
                    obtain ⟨kv, hkv, -⟩ := Vm.findClass_spec v4
                    exact W.aast hx hb q1 (fun q w => by rw [z2] at w; cases w) hkn (by rw [z2]; exact f5) f6 rfl hkcomp ⟨fun q => hin (Or.inl q), by rw [hsz]; exact hjl⟩ v1 (fun q w => by rw [w] at v3; cases v3) hkv w3 rfl rfl hd fin
                  · cases hok
                | _ => simp [am_ok] at hok <;> omega
              · cases hk
          · cases e1
        · cases e1
      · cases e1
end AmWrite
end
section
/-! New cells; one step of the small machine in the true one; it never forgets a cell. -/
theorem am_vdef (X : am_X) (ty : FieldType) : am_v X (defaultValue ty) = defaultValue ty := by
  cases ty <;> rfl
theorem am_arr_congr {cA : ClassId} {n : Nat} {f g : Nat → Value} (h : ∀ j, j < n → f j = g j) : arrV cA n f = arrV cA n g := by
  unfold arrV
  congr 1
  apply Array.ext
  · simp
  · intro j h1 h2
    simp only [Array.getElem_ofFn]
    exact h j (by simpa using h1)
theorem am_arr_new {X : am_X} {t n : Nat} {v : Value} (ht : am_oka t = true) (hv : am_v X v = v) : am_RC X (.inr (t, List.replicate n v)) (arrV (X.2.2.2.2.1 t) n (fun _ => v)) := by
  refine ⟨ht, ?_⟩
  rw [List.length_replicate]
  refine am_arr_congr fun j hj => ?_
  simp [List.getD_eq_getElem?_getD, List.getElem?_replicate, hj, hv]
section AmMake
variable {p : Program} {l : Launch} {e : Env} {R : Room} {s : State} {m : MethodId} {args : Array Value} {below : List Frame} {meth : Method} {c : Code} {H : Heap} {locs : List Loc} {cells slots : Nat} {Q : State → Prop}
variable {cc : ByteArray} {pc len mi ow : Nat} {ls : Array Slot} {st : List Value} {X : am_X} {lv : am_L} {i i0 : Instr} {h : am_H}
theorem am_ph_new (X : am_X) {n : Nat} (hn : 1 ≤ n) : am_ph X (1000 + n) = X.2.1 + (n - 1) := by
  unfold am_ph
  rw [if_neg (by omega), if_neg (by omega), show 1000 + n - 1001 = n - 1 by omega]
theorem am_mk_ok (hx : p.tables.exec = Jvm.exec) (hb : c.code = cc) (hF : am_Fx X s) (hP : am_P X h H) (ho : am_old X s H) (hown : s.vm.findClass (am_ow ow) = some m.cls) {st' : List Value} {cl : am_C} (e1 : am_mk i st = some (st', cl)) (hd : decode cc pc = .ok (i0, len)) (hck : am_ck ow pc i len i0 = true)
    (hr1 : cells + 1 ≤ R.cells) (hr2 : slots + am_cs cl ≤ R.slots)
    (kk : ∀ (H' : Heap), am_P X (h ++ [cl]) H' → am_old X s H' → W p l e R s m args below meth c H' locs (cells + 1) (slots + am_cs cl) Q (F0 m (pc + len) ls ((Value.ref (1000 + h.length) :: st').map (am_v X)))) : W p l e R s m args below meth c H locs cells slots Q (F0 m pc ls (st.map (am_v X))) := by
  obtain ⟨hl1, hsz⟩ := hP.len
  have hb0 : X.2.1 ≤ H.size := by omega
  have href : am_v X (.ref (1000 + h.length)) = .ref H.size := by
    show Value.ref _ = _
    rw [am_ph_new X hl1, hsz]
  simp only [List.map_cons, href] at kk
  unfold am_mk at e1
  split at e1
  · rename_i ci
    simp only [am_ck] at hck
    split at hck
    · rename_i k
      simp only [Bool.and_eq_true, decide_eq_true_eq] at hck
      obtain ⟨hnl, rfl⟩ := hck
      cases hn : am_new ci with
      | none => rw [hn] at e1; cases e1
      | some fs =>
        rw [hn] at e1
        simp only [Option.map_some, Option.some.injEq, Prod.mk.injEq] at e1
        obtain ⟨rfl, rfl⟩ := e1
        obtain ⟨n1, n2⟩ := hF.2.2.2.2.2.1 ow k ci hnl
        obtain ⟨n2, n3, n4⟩ := n2 args
        obtain ⟨c1, kC, c2, c3, c4, c5⟩ := hF.2.1 ci n1
        refine W.newcK hx hb hown n2 n3 n4 rfl hd hr1 hr2 c1 rfl fun H' kC' hk' w1 w2 w3 => ?_
        cases c2.symm.trans hk'
        refine kk H' (hP.push w1 w2 w3 ⟨n1, rfl, rfl, fun j f v hj hv => ?_⟩) (ho.push hb0 w3)
        rw [k2_blank (c4 j f hj), am_new_ok hn hj hv, am_vdef]
    · cases hck
  · rename_i ty
    split at e1
    · rename_i n r
      split at e1
      · rename_i hc
        have hN := hc.2
        split at e1
        · cases e1
          simp only [am_ck, Bool.and_eq_true, decide_eq_true_eq] at hck
          obtain ⟨rfl, hck⟩ := hck
          simp only [am_len] at hck
          subst hck
          simp only [am_cs, List.length_replicate] at hr2 kk
          have hA : (Cond.arrayClass (newarray.typeOf ArrayType.int)).before args s = true := by rw [show newarray.typeOf ArrayType.int = FieldType.int from rfl]; exact (hF.2.2.2.2.2.2.2.2.2.2 args).1
          refine va_newaK (atype := ArrayType.int) hx hb hA rfl hd rfl hc.1 rfl (by rw [show componentBytes (newarray.typeOf .int) = 4 from rfl]; omega) hr1 hr2 rfl fun H' cA w1 w2 w3 w4 w5 => ?_
          cases (hF.2.2.1 0 rfl).2.1.symm.trans w5
          exact kk H' (hP.push w1 w2 w3 (am_arr_new rfl rfl)) (ho.push hb0 w3)
        · cases e1
          simp only [am_ck, Bool.and_eq_true, decide_eq_true_eq] at hck
          obtain ⟨rfl, hck⟩ := hck
          simp only [am_len] at hck
          subst hck
          simp only [am_cs, List.length_replicate] at hr2 kk
          have hA : (Cond.arrayClass (newarray.typeOf ArrayType.char)).before args s = true := by rw [show newarray.typeOf ArrayType.char = FieldType.char from rfl]; exact (hF.2.2.2.2.2.2.2.2.2.2 args).2.1
          refine va_newaK (atype := ArrayType.char) hx hb hA rfl hd rfl hc.1 rfl (by rw [show componentBytes (newarray.typeOf .char) = 2 from rfl]; omega) hr1 hr2 rfl fun H' cA w1 w2 w3 w4 w5 => ?_
          cases (hF.2.2.1 1 rfl).2.1.symm.trans w5
          exact kk H' (hP.push w1 w2 w3 (am_arr_new rfl rfl)) (ho.push hb0 w3)
        · cases e1
          simp only [am_ck, Bool.and_eq_true, decide_eq_true_eq] at hck
          obtain ⟨rfl, hck⟩ := hck
          simp only [am_len] at hck
          subst hck
          simp only [am_cs, List.length_replicate] at hr2 kk
          have hA : (Cond.arrayClass (newarray.typeOf ArrayType.long)).before args s = true := by rw [show newarray.typeOf ArrayType.long = FieldType.long from rfl]; exact (hF.2.2.2.2.2.2.2.2.2.2 args).2.2
          refine va_newaK (atype := ArrayType.long) hx hb hA rfl hd rfl hc.1 rfl (by rw [show componentBytes (newarray.typeOf .long) = 8 from rfl]; omega) hr1 hr2 rfl fun H' cA w1 w2 w3 w4 w5 => ?_
          cases (hF.2.2.1 3 rfl).2.1.symm.trans w5
          exact kk H' (hP.push w1 w2 w3 (am_arr_new rfl rfl)) (ho.push hb0 w3)
        · cases e1
      · cases e1
    · cases e1
  · rename_i t
    simp only [am_ck] at hck
    split at hck
    · rename_i k
      simp only [Bool.and_eq_true, decide_eq_true_eq] at hck
      obtain ⟨hal, rfl⟩ := hck
      split at e1
      · rename_i n r
        split at e1
        · rename_i hc
          cases e1
          obtain ⟨a1, a2, a3, a4⟩ := hF.2.2.2.2.2.2.1 ow k t hal
          simp only [am_cs, List.length_replicate] at hr2 kk
          refine W.anew hx hb hown (a4 args).1 (a4 args).2 rfl hd rfl hc.1 (by omega) hr1 hr2 fun cA kA comp f1 f2 f3 f4 => ?_
          have hA := (hF.2.2.1 t a1).2.1
          rw [a3] at hA
          cases hA.symm.trans f1
          have w3 : ∀ q : Nat, q < H.size → (H.push ({ cls := X.2.2.2.2.1 t, slots := Array.replicate n.toNatClampNeg .null, vm := .none } : Cell))[q]? = H[q]? := fun q hq => by rw [Array.getElem?_push, if_neg (Nat.ne_of_lt hq)]
          refine kk _ (hP.push (cell := arrV (X.2.2.2.2.1 t) n.toNatClampNeg (fun _ => .null)) ?_ (by simp) w3 (am_arr_new a1 rfl)) (ho.push hb0 w3)
          rw [Array.getElem?_push_size, ← arrV_new]
        · cases e1
      · cases e1
    · cases hck
  · cases e1
end AmMake
theorem am_set_len {h h' : am_H} {a : Nat} {c c' : am_C} (e : am_set h a c' = some h') (ha : am_at h a = some c) (hc : am_cs c' = am_cs c) : h'.length = h.length ∧ am_sz h' = am_sz h := by
  obtain ⟨h1, h2, rfl⟩ := am_set_inv e
  exact ⟨List.length_set, am_sz_set (am_at_own h1 ha) hc⟩
theorem am_wr_len {mi : Nat} {i : Instr} {st st' : List Value} {h h' : am_H} (e : am_wr mi i st h = some (st', h')) : h'.length = h.length ∧ am_sz h' = am_sz h := by
  unfold am_wr at e
  split at e
  · split at e
    · split at e
      · rename_i a _ ci fs hat
        split at e
        · split at e
          · cases hs : am_set h _ (.inl (_, _)) with
            | none => rw [hs] at e; cases e
            | some h2 =>
              rw [hs] at e
              simp only [Option.map_some, Option.some.injEq, Prod.mk.injEq] at e
              obtain ⟨rfl, rfl⟩ := e
              exact am_set_len hs hat rfl
          · cases e
        · cases e
      · cases e
    · cases e
  · split at e
    · cases e
    · split at e
      · split at e
        · rename_i hat
          split at e
          · cases hs : am_set h _ (.inr (_, _)) with
            | none => rw [hs] at e; cases e
            | some h2 =>
              rw [hs] at e
              simp only [Option.map_some, Option.some.injEq, Prod.mk.injEq] at e
              obtain ⟨rfl, rfl⟩ := e
              exact am_set_len hs hat (by simp [am_cs])
          · cases e
        · cases e
      · cases e
theorem am_one_len {mi : Nat} {i : Instr} {len pc pc' : Nat} {lv lv' : am_L} {st st' : List Value} {h h' : am_H} (e : am_one mi i len pc lv st h = some (pc', lv', st', h')) : h.length ≤ h'.length ∧ am_sz h ≤ am_sz h' := by
  unfold am_one at e
  split at e
  · cases e; exact ⟨Nat.le_refl _, Nat.le_refl _⟩
  · split at e
    · cases e; exact ⟨Nat.le_refl _, Nat.le_refl _⟩
    · split at e
      · cases e; exact ⟨Nat.le_refl _, Nat.le_refl _⟩
      · split at e
        · cases e; exact ⟨Nat.le_refl _, Nat.le_refl _⟩
        · split at e
          · cases e; exact ⟨Nat.le_refl _, Nat.le_refl _⟩
          · split at e
            · rename_i hw
              cases e
              have := am_wr_len hw
              omega
            · split at e
              · cases e
                rw [am_sz_push, List.length_append]
                omega
              · split at e
                · cases e; exact ⟨Nat.le_refl _, Nat.le_refl _⟩
                · cases e
theorem am_run_len : ∀ (n d mi pc : Nat) (lv : am_L) (st : List Value) (h : am_H) (o : am_O) (h' : am_H), am_run n d mi pc lv st h = some (o, h') → h.length ≤ h'.length ∧ am_sz h ≤ am_sz h' := by
  intro n
  induction n with
  | zero =>
    intro d mi pc lv st h o h' hr
    rw [am_zero] at hr
    cases hr
  | succ n ih =>
    intro d mi pc lv st h o h' hr
    rw [am_succ] at hr
    cases hc : am_code mi pc with
    | none => rw [hc] at hr; cases hr
    | some z =>
      obtain ⟨i, len⟩ := z
      simp only [hc] at hr
      cases h1 : am_ret mi i st with
      | some v =>
        simp only [h1] at hr
        cases hr
        exact ⟨Nat.le_refl _, Nat.le_refl _⟩
      | none =>
        simp only [h1] at hr
        cases h2 : am_thr mi i st with
        | some x =>
          simp only [h2] at hr
          cases hr
          rw [am_sz_push, List.length_append]
          omega
        | none =>
          simp only [h2] at hr
          cases h3 : am_inv i st h with
          | some z =>
            obtain ⟨mj, as, r⟩ := z
            simp only [h3] at hr
            cases d with
            | zero => cases hr
            | succ d' =>
              simp only at hr
              cases h4 : am_run n d' mj 0 (am_ent mj as) [] h with
              | none => rw [h4] at hr; cases hr
              | some z =>
                obtain ⟨o1, h1'⟩ := z
                have q := ih _ _ _ _ _ _ _ _ h4
                simp only [h4] at hr
                cases o1 with
                | inl v =>
                  have q2 := ih _ _ _ _ _ _ _ _ hr
                  omega
                | inr a =>
                  simp only at hr
                  cases h5 : am_hx mi pc h1' a with
                  | some pc' =>
                    simp only [h5] at hr
                    have q2 := ih _ _ _ _ _ _ _ _ hr
                    omega
                  | none =>
                    simp only [h5] at hr
                    split at hr
                    · cases hr
                      exact q
                    · cases hr
          | none =>
            simp only [h3] at hr
            cases h4 : am_one mi i len pc lv st h with
            | none => rw [h4] at hr; cases hr
            | some z =>
              obtain ⟨pc', lv', st', h2'⟩ := z
              simp only [h4] at hr
              have q := am_one_len h4
              have q2 := ih _ _ _ _ _ _ _ _ hr
              omega
end
section
/-! The small machine's end is the true machine's end: by the number of its steps. What calls, throws and catches lean on is taken as hypotheses here (am_HC, am_HT, am_HH, am_HW) and paid in a later part. -/
/-- a state of the law's run: the tables warmer, the cells of the start as they were -/
def am_Lt (X : am_X) (s0 U : State) : Prop := s0.WarmedH U.vm ∧ ∀ q : Nat, q < X.2.1 → U.heap[q]? = s0.heap[q]?
def am_oc (X : am_X) (o : am_O) : Outcome := match o with
  | .inl v => .returned (v.map (am_v X))
  | .inr a => .threw (am_ph X a)
def am_PP (X : am_X) (s0 : State) (as : List Value) (h : am_H) : Array Value → State → Prop := fun a U => a = (as.map (am_v X)).toArray ∧ am_Lt X s0 U ∧ am_P X h U.heap
def am_QQ (X : am_X) (o : am_O) (h h' : am_H) : Array Value → State → Outcome → State → Prop := fun _ st oc t => oc = am_oc X o ∧ am_P X h' t.heap ∧ st.WarmedH t.vm ∧ ∃ L, st.sameButNew ({ t with vm := st.vm } : State) L (h'.length - h.length) (am_sz h' - am_sz h) ∧ ∀ q ∈ L, X.2.1 ≤ q.base
def am_rm (d : Nat) (h h' : am_H) : Room := { frames := d + 10, cells := h'.length - h.length, slots := am_sz h' - am_sz h, locals := 64 * d + 200 }
def am_cw (mi : Nat) : Jvm.Cond := match am_hs mi with
  | [] => .code (am_mn mi) (am_mb mi) (am_ml mi) (am_mr mi)
  | x :: hs => .codeWith (am_mn mi) (am_mb mi) (am_ml mi) (am_mr mi) (x :: hs)
def am_M (l : Launch) (X : am_X) (s0 : State) (d mi : Nat) (as : List Value) (h : am_H) (o : am_O) (h' : am_H) : Prop :=
  MetFree l (am_mn mi) (headSpec [am_cw mi] (am_rm d h h')) (am_PP X s0 as h) (fun _ _ _ _ _ => True) (am_QQ X o h h')
def am_MQ (X : am_X) (s : State) (below : List Frame) (o : am_O) (h0 h' : am_H) : State → Prop := fun t => t.status = .running ∧ Ended t below (am_oc X o) ∧ am_P X h' t.heap ∧ s.WarmedH t.vm ∧ ∃ L, s.sameButNew ({ t with vm := s.vm } : State) L (h'.length - h0.length) (am_sz h' - am_sz h0) ∧ ∀ q ∈ L, X.2.1 ≤ q.base
/-- the invoking instructions are linked -/
def am_HC (l : Launch) (X : am_X) (s0 : State) : Prop :=
  ∀ (mi pc len : Nat) (i : Instr) (mj : Nat) (as r st : List Value) (h : am_H), am_code mi pc = some (i, len) → am_inv i st h = some (mj, as, r) →
  ∀ (p : Program) (e : Env) (R : Room) (s : State) (m : MethodId) (args : Array Value) (below : List Frame) (meth : Method) (c : Code) (T : State) (locs : List Loc) (cells slots : Nat) (ls : Array Slot),
  p.tables.exec = Jvm.exec → c.code = am_mb mi → s.vm.findClass (am_ow (am_mo mi)) = some m.cls → am_Lt X s0 s → am_Fx X s → am_P X h T.heap → am_old X s T.heap → Stand p l e R s m args below meth c T locs cells slots →
  (∃ ig, decode c.code pc = .ok (ig, len)) ∧ ∃ (vm' : Vm) (mk : MethodId), s.methodNamed? (am_mn mj) = some mk ∧ Stand p l e R s m args below meth c (T.setVm vm') locs cells slots ∧
    ∀ target, (∀ acts, Steps p.tables e below (doInvoke e ((T.setVm vm').setTop (F0 m pc ls (r.map (am_v X)))) acts mk (as.map (am_v X)).toArray).1 target) → Steps p.tables e below (T.setTop (F0 m pc ls (st.map (am_v X)))) target
/-- 'throw new X(message)' -/
def am_HT (l : Launch) (X : am_X) (s0 : State) : Prop :=
  ∀ (mi pc len x : Nat), am_code mi pc = some (.instanceof x, len) →
  ∀ (p : Program) (e : Env) (R : Room) (s : State) (m : MethodId) (args : Array Value) (below : List Frame) (meth : Method) (c : Code) (T : State) (locs : List Loc) (cells slots : Nat) (ls : Array Slot),
  p.tables.exec = Jvm.exec → c.code = am_mb mi → s.vm.findClass (am_ow (am_mo mi)) = some m.cls → meth.locks = false → am_Lt X s0 s → am_old X s T.heap → X.2.1 ≤ T.heap.size → ls.size = c.maxLocals → c.exceptionTable.toList = [] → 10 ≤ R.frames → 200 ≤ R.locals → cells + 1 ≤ R.cells → slots + am_N x ≤ R.slots → Stand p l e R s m args below meth c T locs cells slots →
  am_own x = true ∧ am_lay x = [] ∧ ∃ U : State, Steps p.tables e below (T.setTop (F0 m pc ls [])) U ∧ U.status = .running ∧ Ended U below (.threw T.heap.size) ∧ s.WarmedH U.vm ∧ s.sameButNew ({ U with vm := s.vm } : State) locs (cells + 1) (slots + am_N x) ∧ U.heap.size = T.heap.size + 1 ∧ (∀ q : Nat, q < T.heap.size → U.heap[q]? = T.heap[q]?) ∧
    ∃ ce : Cell, U.heap[T.heap.size]? = some ce ∧ ce.cls = X.2.2.1 x ∧ ce.vm = .none
/-- the calls of Object.<init> and of String.checkIndex -/
def am_HS (l : Launch) (X : am_X) (s0 : State) : Prop :=
  ∀ (mi pc len : Nat) (i i0 : Instr) (st r : List Value), decode (am_mb mi) pc = .ok (i0, len) → am_ck (am_mo mi) pc i len i0 = true → am_spc i st = some r →
  ∀ (p : Program) (e : Env) (R : Room) (s : State) (m : MethodId) (args : Array Value) (below : List Frame) (meth : Method) (c : Code) (H : Heap) (locs : List Loc) (cells slots : Nat) (Q : State → Prop) (ls : Array Slot),
  p.tables.exec = Jvm.exec → c.code = am_mb mi → s.vm.findClass (am_ow (am_mo mi)) = some m.cls → am_Lt X s0 s → am_old X s H → cells ≤ R.cells → slots ≤ R.slots → ls.size = c.maxLocals → 10 ≤ R.frames → 200 ≤ R.locals →
  W p l e R s m args below meth c H locs cells slots Q (F0 m (pc + len) ls (r.map (am_v X))) → W p l e R s m args below meth c H locs cells slots Q (F0 m pc ls (st.map (am_v X)))
/-- a catch clause -/
def am_HH (l : Launch) (X : am_X) (s0 : State) : Prop :=
  ∀ (mi pc x pc' : Nat), am_hnd mi pc x = some pc' →
  ∀ (p : Program) (e : Env) (R : Room) (s : State) (m : MethodId) (args : Array Value) (below : List Frame) (meth : Method) (c : Code) (T : State) (locs : List Loc) (cells slots : Nat) (ls : Array Slot) (st : List Value) (a : Nat) (cell : Cell),
  s.vm.findClass (am_ow (am_mo mi)) = some m.cls → am_Lt X s0 s → c.exceptionTable.toList.map (fun h => (h.startPc, h.endPc, h.handlerPc, h.catchType)) = am_hs mi → T.heap[a]? = some cell → cell.vm.isStatics = false → s.vm.findClass (am_cn x) = some cell.cls → Stand p l e R s m args below meth c T locs cells slots →
  ∃ vm' : Vm, Stand p l e R s m args below meth c (T.setVm vm') locs cells slots ∧ ∀ target, Steps p.tables e below ((T.setVm vm').setTop (F0 m pc' ls [.ref a])) target → Steps p.tables e below ((T.setTop (F0 m pc ls st)).pushFrame (.throwing a)) target
/-- the methods' own words -/
def am_HW (s0 : State) : Prop := ∀ mi, am_okm mi = true → plainName (am_mn mi).cls = true ∧ am_ml mi ≤ 45 ∧ ∀ (args : Array Value) (U : State), s0.WarmedH U.vm → (am_cw mi).before args U = true ∧ (Jvm.Cond.initialized (am_mn mi).cls).before args U = true
/-- the tables' instructions are the bytes' -/
def am_HD : Prop := ∀ (mi pc len : Nat) (i : Instr), am_code mi pc = some (i, len) → ∃ i0, decode (am_mb mi) pc = .ok (i0, len) ∧ am_ck (am_mo mi) pc i len i0 = true ∧ ∀ k, i0 = .putfield k → am_pl (am_mo mi) k = true
theorem am_cw_spec {mi : Nat} {args : Array Value} {s : State} {m : MethodId} (h : (am_cw mi).before args s = true) (hn : s.methodNamed? (am_mn mi) = some m) :
    ∃ meth c, s.vm.method? m = some meth ∧ meth.code = some c ∧ c.code = am_mb mi ∧ c.maxLocals = am_ml mi ∧ meth.sig.returnType = am_mr mi ∧ meth.locks = false ∧ c.exceptionTable.toList.map (fun h => (h.startPc, h.endPc, h.handlerPc, h.catchType)) = am_hs mi := by
  unfold am_cw at h
  split at h
  · rename_i hh
    obtain ⟨meth, c, h1, h2, h3, h4, h5, h6, h7, -⟩ := Cond.code_spec hn h
    refine ⟨meth, c, h1, h2, h3, h4, h5, h6, ?_⟩
    rw [hh]
    have : c.exceptionTable = #[] := by simpa using h7
    rw [this]
    rfl
  · rename_i x hs hh
    obtain ⟨m9, meth, c, hn9, h1, h2, h3, h4, h5, h6, h7, -⟩ := Cond.codeWith_spec h
    cases hn.symm.trans hn9
    exact ⟨meth, c, h1, h2, h3, h4, h6, h7, by rw [hh]; exact h5⟩
theorem am_kept {X : am_X} {s u : State} {L : List Loc} {k n : Nat} (h : s.sameButNew u L k n) (hL : ∀ q ∈ L, X.2.1 ≤ q.base) {q : Nat} (hq : q < X.2.1) (hs : X.2.1 ≤ s.heap.size) : u.heap[q]? = s.heap[q]? := by
  have hlt : q < s.heap.size := by omega
  have hc : s.heap[q]? = some s.heap[q] := Array.getElem?_eq_getElem hlt
  obtain ⟨c', h1, h2, h3, h4⟩ := h.2.2.2.2.2 q _ hc
  rw [h1, hc, h2]
  congr 1
  have : c'.slots = s.heap[q].slots := by
    apply Array.ext_getElem?
    intro i
    exact h4 i (fun hm => by have := hL _ hm; simp only at this; omega)
  rw [this]
theorem am_sl_map (X : am_X) (as : List Value) : lg_sl (as.map (am_v X)) = (am_sl as).map (fun o => match o with
    | some v => Slot.val (am_v X v)
    | none => Slot.second) := by
  unfold lg_sl am_sl
  induction as with
  | nil => rfl
  | cons v r ih =>
    simp only [List.map_cons, List.flatMap_cons, ih, List.map_append, am_v_cat]
    congr 1
    split <;> rfl
theorem am_ent_len {mj : Nat} {as : List Value} (h : (am_sl as).length ≤ am_ml mj) : (am_ent mj as).length = am_ml mj := by
  simp [am_ent]
  omega
theorem am_ent_ok {X : am_X} {mj : Nat} {as : List Value} (h : (am_sl as).length ≤ am_ml mj) : am_Ls X (am_ent mj as) (lg_sl (as.map (am_v X)) ++ List.replicate (am_ml mj - (lg_sl (as.map (am_v X))).length) Slot.unset).toArray := by
  have hlen : (lg_sl (as.map (am_v X))).length = (am_sl as).length := by rw [am_sl_map, List.length_map]
  have hl := lv_entry (as.map (am_v X)) (n := am_ml mj) (by rw [hlen]; exact h)
  refine ⟨by rw [hl.1, am_ent_len h], hl.2.1, fun i v hi => ?_⟩
  rw [List.getElem?_toArray]
  unfold am_ent at hi
  by_cases hlt : i < (am_sl as).length
  · rw [List.getElem?_append_left hlt] at hi
    rw [List.getElem?_append_left (by rw [hlen]; exact hlt), am_sl_map, List.getElem?_map, hi]
    rfl
  · rw [List.getElem?_append_right (by omega)] at hi
    have := List.eq_of_mem_replicate (List.mem_of_getElem? hi)
    cases this
theorem W.am_mono {p : Program} {l : Launch} {e : Env} {R : Room} {s : State} {m : MethodId} {args : Array Value} {below : List Frame} {meth : Method} {c : Code} {H : Heap} {locs : List Loc} {cells slots : Nat} {Q Q' : State → Prop} {g : JFrame} (h : ∀ t, Q t → Q' t)
    (w : W p l e R s m args below meth c H locs cells slots Q g) : W p l e R s m args below meth c H locs cells slots Q' g := fun T hT X => by
  obtain ⟨t, a, b⟩ := w T hT X
  exact ⟨t, a, h t b⟩
/-- so much room -/
def am_Rm (R : Room) (d : Nat) (h h' : am_H) : Prop := d + 10 ≤ R.frames ∧ 64 * d + 200 ≤ R.locals ∧ h'.length - h.length ≤ R.cells ∧ am_sz h' - am_sz h ≤ R.slots
/-- what a walk of the method mi from the heap h0 to the end (o, h') leans on -/
def am_Cx (l : Launch) (X : am_X) (s0 : State) (p : Program) (s : State) (m : MethodId) (meth : Method) (c : Code) (R : Room) (d mi : Nat) (h0 h' : am_H) : Prop :=
  p.tables.exec = Jvm.exec ∧ c.code = am_mb mi ∧ c.maxLocals = am_ml mi ∧ meth.sig.returnType = am_mr mi ∧ meth.locks = false ∧ s.vm.findClass (am_ow (am_mo mi)) = some m.cls ∧ am_Lt X s0 s ∧ am_Fx X s ∧ (am_ini mi = true → meth.name = "<init>") ∧
  c.exceptionTable.toList.map (fun h => (h.startPc, h.endPc, h.handlerPc, h.catchType)) = am_hs mi ∧ am_Rm R d h0 h' ∧ X.2.1 ≤ s.heap.size
theorem am_met {l : Launch} {X : am_X} {s0 : State} {d mi : Nat} {as : List Value} {h : am_H} {o : am_O} {h' : am_H} (hW : am_HW s0) (hFx : ∀ s, am_Lt X s0 s → am_Fx X s) (hok : am_okm mi = true) (hini : am_ini mi = true → (am_mn mi).name = "<init>") (how : am_ow (am_mo mi) = (am_mn mi).cls) (hfit : (am_sl as).length ≤ am_ml mi)
    (body : ∀ (p : Program) (e : Env) (s : State) (m : MethodId) (args : Array Value) (below : List Frame) (meth : Method) (c : Code) (ls : Array Slot), am_Cx l X s0 p s m meth c (am_rm d h h') d mi h h' → am_P X h s.heap → am_Ls X (am_ent mi as) ls →
      W p l e (am_rm d h h') s m args below meth c s.heap [] 0 0 (am_MQ X s below o h h') (F0 m 0 ls [])) : am_M l X s0 d mi as h o h' := by
  refine MetFree.of_bodyS (code := am_mb mi) (maxLocals := am_ml mi) (ret := am_mr mi) (hW mi hok).1 ?_ ?_
  · intro args s m hp hn
    obtain ⟨meth, c, h1, h2, h3, h4, h5, h6, -⟩ := am_cw_spec (atoms_spec (ws := [am_cw mi]) hp _ List.mem_cons_self) hn
    exact ⟨meth, c, h1, h2, h3, h4, h5, h6⟩
  · intro p e s m args below meth c s1 B hml hP _
    obtain ⟨rfl, hLt, hPh⟩ := hP
    have hh0 : s1.heap = s.heap := by rw [B.state]; rfl
    have hpre := atoms_spec (ws := [am_cw mi]) B.pre _ List.mem_cons_self
    obtain ⟨meth', c', h1, h2, h3, h4, h5, h6, h7⟩ := am_cw_spec hpre B.named
    cases B.method.symm.trans h1
    have hS := Stand.of_body B
    cases hS.code.symm.trans h2
    have hown : s.vm.findClass (am_ow (am_mo mi)) = some m.cls := by rw [how]; exact findClass_of_methodNamed B.named
    have hCx : am_Cx l X s0 p s m meth c (am_rm d h h') d mi h h' :=
      ⟨B.exec, B.bytes, hml, B.returns, B.notSynchronized, hown, hLt, hFx s hLt, fun q => by rw [(name_of_methodNamed B.named B.method).1]; exact hini q, h7, ⟨Nat.le_refl _, Nat.le_refl _, Nat.le_refl _, Nat.le_refl _⟩, by have := hPh.len; omega⟩
    obtain ⟨t, a1, b1, b2, b3, b4, b5⟩ := body p e s m _ below meth c _ hCx hPh (am_ent_ok hfit) s1 hh0 hS
    refine ⟨t, am_oc X o, ?_, b1, b2, rfl, b3, b4, b5⟩
    rw [lg_entry_eq]
    exact a1
end
section
/-! The theorem. -/
theorem am_inv_fit {i : Instr} {st as r : List Value} {h : am_H} {mj : Nat} (e : am_inv i st h = some (mj, as, r)) : am_okm mj = true ∧ (am_sl as).length ≤ am_ml mj ∧ (r.map fun v => v.category).sum ≤ 8 := by
  have key : ∀ {as r : List Value}, am_fit mj as r = true → am_okm mj = true ∧ (am_sl as).length ≤ am_ml mj ∧ (r.map fun v => v.category).sum ≤ 8 := by
    intro as r hf
    unfold am_fit at hf
    simp only [Bool.and_eq_true, decide_eq_true_eq] at hf
    exact ⟨hf.1.1, hf.1.2, hf.2⟩
  unfold am_inv at e
  split at e
  · cases e
  · split at e
    · cases e
    · split at e
      · split at e
        · split at e
          · split at e
            · rename_i hf
              cases e
              exact key hf
            · cases e
          · cases e
        · split at e
          · split at e
            · split at e
              · split at e
                · rename_i hf
                  cases e
                  exact key hf
                · cases e
              · cases e
            · cases e
          · cases e
      · cases e
section AmSound
variable {l : Launch} {X : am_X} {s0 : State}
theorem am_ret_ok {p : Program} {e : Env} {R : Room} {s : State} {m : MethodId} {args : Array Value} {below : List Frame} {meth : Method} {c : Code} {H : Heap} {locs : List Loc} {mi pc len ow : Nat} {i i0 : Instr} {st : List Value} {ls : Array Slot} {v : Option Value} {h0 h : am_H}
    (hx : p.tables.exec = Jvm.exec) (hb : c.code = am_mb mi) (hr : meth.sig.returnType = am_mr mi) (hlocks : meth.locks = false) (hP : am_P X h H) (hl : ∀ q ∈ locs, X.2.1 ≤ q.base) (e1 : am_ret mi i st = some v) (hd : decode (am_mb mi) pc = .ok (i0, len)) (hck : am_ck ow pc i len i0 = true) :
    W p l e R s m args below meth c H locs (h.length - h0.length) (am_sz h - am_sz h0) (am_MQ X s below (.inl v) h0 h) (F0 m pc ls (st.map (am_v X))) := by
  have fin : ∀ (t : State), MQ below (fun _ _ oc t => oc = am_oc X (.inl v) ∧ am_P X h t.heap ∧ s.WarmedH t.vm) args s (h.length - h0.length) (am_sz h - am_sz h0) (fun q => X.2.1 ≤ q) t → am_MQ X s below (.inl v) h0 h t := by
    intro t ⟨oc, b1, b2, ⟨q1, q2, q3⟩, L, ⟨_, w, fr⟩, hL⟩
    subst q1
    exact ⟨b1, b2, q2, w, L, fr, hL⟩
  refine W.am_mono fin ?_
  unfold am_ret at e1
  split at e1
  · simp only [am_ck, Bool.and_eq_true, decide_eq_true_eq] at hck
    obtain ⟨rfl, hck⟩ := hck
    simp only [am_len] at hck
    subst hck
    split at e1
    · split at e1
      · rename_i hm
        cases e1
        exact W.vret hx hb (by rw [hr, hm]) (fun t ht hW => ⟨rfl, by rw [ht]; exact hP, hW⟩) hl hd
      · cases e1
    · cases e1
  · simp only [am_ck, Bool.and_eq_true, decide_eq_true_eq] at hck
    obtain ⟨rfl, hck⟩ := hck
    simp only [am_len] at hck
    subst hck
    split at e1
    · rename_i x
      split at e1
      · rename_i ty hm
        split at e1
        · rename_i hf
          cases e1
          exact W.zret hx hb (by rw [hr, hm]) (am_narrow hf) (fun t ht hW => ⟨rfl, by rw [ht]; exact hP, hW⟩) hl hd
        · cases e1
      · cases e1
    · cases e1
  · simp only [am_ck, Bool.and_eq_true, decide_eq_true_eq] at hck
    obtain ⟨rfl, hck⟩ := hck
    simp only [am_len] at hck
    subst hck
    split at e1
    · rename_i w
      split at e1
      · rename_i ty hm
        split at e1
        · rename_i hf
          cases e1
          have hty : (∃ n, ty = .object n) ∨ ∃ t, ty = .array t := by
            have := hf.1
            cases ty <;> first | (exact Or.inl ⟨_, rfl⟩) | (exact Or.inr ⟨_, rfl⟩) | (simp [FieldType.isReference] at this)
          have hv : am_v X w = .null ∨ ∃ a, am_v X w = .ref a := by
            have := hf.2
            rcases hty with ⟨n, rfl⟩ | ⟨t, rfl⟩ <;> cases w <;> first | (exact Or.inl rfl) | (exact Or.inr ⟨_, rfl⟩) | (simp [fits] at this)
          exact W.aret hx hb (by rw [hr, hm]) hty hv (fun t ht hW => ⟨rfl, by rw [ht]; exact hP, hW⟩) hl hd
        · cases e1
      · cases e1
    · cases e1
  · cases e1
theorem am_sound (hI : am_inj X) (hFx : ∀ s, am_Lt X s0 s → am_Fx X s) (hC : am_HC l X s0) (hT : am_HT l X s0) (hS : am_HS l X s0) (hH : am_HH l X s0) (hW : am_HW s0) (hD : am_HD)
    (hN : ∀ mi, am_okm mi = true → (am_ini mi = true → (am_mn mi).name = "<init>") ∧ am_ow (am_mo mi) = (am_mn mi).cls) (hN2 : ∀ mi, am_noh mi = true → am_hs mi = []) :
    ∀ (n d mi pc : Nat) (lv : am_L) (st : List Value) (h : am_H) (o : am_O) (h' : am_H), am_run n d mi pc lv st h = some (o, h') →
    ∀ (p : Program) (e : Env) (s : State) (m : MethodId) (args : Array Value) (below : List Frame) (meth : Method) (c : Code) (R : Room) (h0 : am_H) (H : Heap) (locs : List Loc) (ls : Array Slot),
    am_Cx l X s0 p s m meth c R d mi h0 h' → h0.length ≤ h.length → am_sz h0 ≤ am_sz h → lv.length = am_ml mi → am_Ls X lv ls → am_P X h H → am_old X s H → (∀ q ∈ locs, X.2.1 ≤ q.base) →
    W p l e R s m args below meth c H locs (h.length - h0.length) (am_sz h - am_sz h0) (am_MQ X s below o h0 h') (F0 m pc ls (st.map (am_v X))) := by
  intro n
  induction n with
  | zero =>
    intro d mi pc lv st h o h' hr
    rw [am_zero] at hr
    cases hr
  | succ n ih =>
    intro d mi pc lv st h o h' hr p e s m args below meth c R h0 H locs ls hCx hl1 hl2 hlv hls hP ho hl
    obtain ⟨hx, hb, hml, hrt, hlocks, hown, hLt, hF, hini, htab, ⟨hR1, hR2, hR3, hR4⟩, hb0⟩ := id hCx
    rw [am_succ] at hr
    cases hc : am_code mi pc with
    | none => rw [hc] at hr; cases hr
    | some z =>
      obtain ⟨i, len⟩ := z
      simp only [hc] at hr
      obtain ⟨i0, hd, hck, hpl⟩ := hD mi pc len i hc
      cases h1 : am_ret mi i st with
      | some v =>
        simp only [h1] at hr
        cases hr
        exact am_ret_ok hx hb hrt hlocks hP hl h1 hd hck
      | none =>
        simp only [h1] at hr
        cases h2 : am_thr mi i st with
        | some x =>
          simp only [h2] at hr
          cases hr
          unfold am_thr at h2
          split at h2
          · split at h2
            · split at h2
              · rename_i hno
                cases h2
                have htl : c.exceptionTable.toList = [] := by
                  rw [hN2 mi hno] at htab
                  exact List.map_eq_nil_iff.mp htab
                intro T hTH XX
                have hRc : h.length + 1 - h0.length ≤ R.cells := by simpa using hR3
                have hRs : am_sz h + am_N x - am_sz h0 ≤ R.slots := by rw [am_sz_push] at hR4; exact hR4
                obtain ⟨t1, t2, U, u1, u2, u3, u4, u5, u6, u7, ce, u8, u9, u10⟩ := hT mi pc len x hc p e R s m args below meth c T locs _ _ ls hx hb hown hlocks hLt (by rw [hTH]; exact ho) (by rw [hTH]; have := hP.len; omega) (by rw [hls.1, hlv, hml]) htl (by omega) (by omega) (by omega) (by omega) XX
                refine ⟨U, u1, u2, ?_, ?_, u4, locs, ?_, hl⟩
                · show Ended U below (.threw (am_ph X (1000 + h.length)))
                  rw [am_ph_new X hP.len.1, ← hP.len.2, ← hTH]
                  exact u3
                · exact hP.push (by rw [← hTH]; exact u8) (by rw [← hTH]; exact u6) (by rw [← hTH]; exact u7) ⟨t1, u9, u10, fun k f v hk => by rw [t2] at hk; cases hk⟩
                · have e1 : (h ++ [Sum.inl (x, [])]).length - h0.length = h.length - h0.length + 1 := by simp; omega
                  have e2 : am_sz (h ++ [Sum.inl (x, [])]) - am_sz h0 = am_sz h - am_sz h0 + am_N x := by
                    rw [am_sz_push]
                    show am_sz h + am_N x - am_sz h0 = _
                    omega
                  rw [e1, e2]
                  exact u5
              · cases h2
            · cases h2
          · cases h2
        | none =>
          simp only [h2] at hr
          cases h3 : am_inv i st h with
          | some z =>
            obtain ⟨mj, as, r⟩ := z
            simp only [h3] at hr
            cases d with
            | zero => cases hr
            | succ d' =>
              simp only at hr
              obtain ⟨hokj, hfit, hcat⟩ := am_inv_fit h3
              cases h4 : am_run n d' mj 0 (am_ent mj as) [] h with
              | none => rw [h4] at hr; cases hr
              | some z =>
                obtain ⟨o1, h1'⟩ := z
                simp only [h4] at hr
                have hlen1 := am_run_len _ _ _ _ _ _ _ _ _ h4
                have hM : am_M l X s0 d' mj as h o1 h1' := am_met hW hFx hokj (hN mj hokj).1 (hN mj hokj).2 hfit (fun p2 e2 s2 m2 args2 below2 meth2 c2 ls2 hCx2 hP2 hls2 => by
                  have w := ih d' mj 0 (am_ent mj as) [] h o1 h1' h4 p2 e2 s2 m2 args2 below2 meth2 c2 _ h s2.heap [] ls2 hCx2 (Nat.le_refl _) (Nat.le_refl _) (am_ent_len hfit) hls2 hP2 (fun q _ => rfl) (fun q hq => by cases hq)
                  rw [Nat.sub_self, Nat.sub_self] at w
                  exact w)
                have hlen2 : h1'.length ≤ h'.length ∧ am_sz h1' ≤ am_sz h' := by
                  cases o1 with
                  | inl v => exact am_run_len _ _ _ _ _ _ _ _ _ hr
                  | inr a =>
                    simp only at hr
                    cases h5 : am_hx mi pc h1' a with
                    | some pc' =>
                      simp only [h5] at hr
                      exact am_run_len _ _ _ _ _ _ _ _ _ hr
                    | none =>
                      simp only [h5] at hr
                      split at hr
                      · cases hr
                        exact ⟨Nat.le_refl _, Nat.le_refl _⟩
                      · cases hr
                intro T hTH XX
                obtain ⟨⟨ig, hdg⟩, vm', mk, hnm, X1, hstep⟩ := hC mi pc len i mj as r st h hc h3 p e R s m args below meth c T locs _ _ ls hx hb hown hLt hF (by rw [hTH]; exact hP) (by rw [hTH]; exact ho) XX
                have hwarm : s0.WarmedH (T.setVm vm').vm := State.WarmedH.trans hLt.1 X1.warmed
                obtain ⟨w1, w2, w3⟩ := hW mj hokj
                obtain ⟨w4, w5⟩ := w3 #[] (T.setVm vm') hwarm
                have hnU : (T.setVm vm').methodNamed? (am_mn mj) = some mk := X1.named hnm
                obtain ⟨methY, cY, y1, y2, y3, y4, -, -, -⟩ := am_cw_spec w4 hnU
                have hUh : (T.setVm vm').heap = H := hTH
                have hHs : X.2.1 ≤ H.size := by have := hP.len; omega
                obtain ⟨oc, t, L, g', mk', hq, hL, X2, hsteps⟩ := am_back (mc := h1'.length - h.length) (ms := am_sz h1' - am_sz h) (Bad := fun q => X.2.1 ≤ q.base) (a := (as.map (am_v X)).toArray) hM X1 (g := F0 m pc ls (r.map (am_v X))) rfl (by show ls.size = _; rw [hls.1, hlv, hml]) hdg
                  (by show 2 * 0 + _ ≤ 8; rw [am_v_cats]; omega) hnU y1 y2 w5 (by show d' + 10 + 1 ≤ R.frames; omega) (by rw [y4]; show 8 + (am_ml mj + 11) + (64 * d' + 200) ≤ R.locals; omega)
                  (atoms_intro (ws := [am_cw mj]) (fun w hw => by rw [List.mem_singleton] at hw; subst hw; exact (w3 _ _ hwarm).1)) (by show _ + (h1'.length - h.length) ≤ R.cells; omega) (by show _ + (am_sz h1' - am_sz h) ≤ R.slots; omega)
                  (fun g' mk' => ⟨rfl, ⟨hwarm, fun q hq => by show (T.setVm vm').heap[q]? = _; rw [hUh, ho q hq]; exact hLt.2 q hq⟩, by show am_P X h (T.setVm vm').heap; rw [hUh]; exact hP⟩)
                  (fun g' mk' o2 t2 hq => ⟨hq.2.2.1, hq.2.2.2⟩)
                obtain ⟨rfl, hP1, hWt, L', hs', hL'⟩ := hq
                have ho1 : am_old X s t.heap := fun q hq => by
                  have k1 := am_kept (X := X) hs' hL' hq (by show X.2.1 ≤ (T.setVm vm').heap.size; rw [hUh]; exact hHs)
                  have k2 : t.heap[q]? = (T.setVm vm').heap[q]? := k1
                  rw [k2, hUh]
                  exact ho q hq
                have hll : ∀ q ∈ locs ++ L, X.2.1 ≤ q.base := fun q hq => (List.mem_append.mp hq).elim (hl q) (hL q)
                have e1 : h.length - h0.length + (h1'.length - h.length) = h1'.length - h0.length := by omega
                have e2 : am_sz h - am_sz h0 + (am_sz h1' - am_sz h) = am_sz h1' - am_sz h0 := by omega
                rw [e1, e2] at X2
                cases o1 with
                | inl v =>
                  obtain ⟨t2, a1, b1⟩ := ih (d' + 1) mi (pc + len) lv (v.toList ++ r) h1' o h' hr p e s m args below meth c R h0 t.heap (locs ++ L) ls hCx (by omega) (by omega) hlv hls hP1 ho1 hll (am_af (T.setVm vm') t) rfl X2
                  refine ⟨t2, hstep t2 fun acts => ?_, b1⟩
                  rw [doInvoke_state]
                  refine Steps.trans hsteps ?_
                  have e3 : (v.toList ++ r).map (am_v X) = (v.map (am_v X)).toList ++ r.map (am_v X) := by cases v <;> rfl
                  rw [e3] at a1
                  exact a1
                | inr a =>
                  simp only at hr
                  cases h5 : am_hx mi pc h1' a with
                  | some pc' =>
                    simp only [h5] at hr
                    unfold am_hx at h5
                    split at h5
                    · rename_i ci fs hat
                      obtain ⟨cell, q1, z1, z2, z3, -⟩ := am_look hF hI hP1 ho1 hat
                      obtain ⟨vm3, X3, hst3⟩ := hH mi pc ci pc' h5 p e R s m args below meth c (am_af (T.setVm vm') t) (locs ++ L) _ _ ls (r.map (am_v X)) (am_ph X a) cell hown hLt htab q1 z2 z3 X2
                      obtain ⟨t2, a1, b1⟩ := ih (d' + 1) mi pc' lv [.ref a] h1' o h' hr p e s m args below meth c R h0 t.heap (locs ++ L) ls hCx (by omega) (by omega) hlv hls hP1 ho1 hll ((am_af (T.setVm vm') t).setVm vm3) rfl X3
                      refine ⟨t2, hstep t2 fun acts => ?_, b1⟩
                      rw [doInvoke_state]
                      exact Steps.trans hsteps (hst3 t2 a1)
                    · cases h5
                  | none =>
                    simp only [h5] at hr
                    split at hr
                    · rename_i hno
                      cases hr
                      have htl : c.exceptionTable.toList = [] := by
                        rw [hN2 mi hno] at htab
                        exact List.map_eq_nil_iff.mp htab
                      obtain ⟨k1, k2, k3, k4, k5⟩ := X2.leaveThrown (am_ph X a) (g := F0 m pc ls (r.map (am_v X))) rfl rfl rfl (fun x hx => by rw [htl] at hx; cases hx) (hlocks := hlocks)
                      refine ⟨_, hstep _ fun acts => ?_, k2, k3, hP1, k4, locs ++ L, k5, hll⟩
                      rw [doInvoke_state]
                      exact Steps.trans hsteps k1
                    · cases hr
          | none =>
            simp only [h3] at hr
            cases h4 : am_one mi i len pc lv st h with
            | none => rw [h4] at hr; cases hr
            | some z =>
              obtain ⟨pc', lv', st', h2'⟩ := z
              simp only [h4] at hr
              have hl4 := am_run_len _ _ _ _ _ _ _ _ _ hr
              have hown' := hown
              unfold am_one at h4
              split at h4
              · rename_i v hv
                cases h4
                exact am_push_ok hx hb hls hv hd hck hown (fun k v hk => hF.2.2.2.2.2.2.2.2.1 mi k v hk args) (ih _ _ _ _ _ _ _ _ hr p e s m args below meth c R h0 H locs ls hCx hl1 hl2 hlv hls hP ho hl)
              · split at h4
                · rename_i hv
                  cases h4
                  exact am_sto_ok hx hb hls hv hd hck (fun ls' hls' => ih _ _ _ _ _ _ _ _ hr p e s m args below meth c R h0 H locs ls' hCx hl1 hl2 (by rw [am_sto_len hv]; exact hlv) hls' hP ho hl)
                · split at h4
                  · rename_i hv
                    cases h4
                    exact am_ari_ok hx hb hv hd hck (ih _ _ _ _ _ _ _ _ hr p e s m args below meth c R h0 H locs ls hCx hl1 hl2 hlv hls hP ho hl)
                  · split at h4
                    · rename_i hv
                      cases h4
                      exact am_br_ok hx hb hI hv hd hck (ih _ _ _ _ _ _ _ _ hr p e s m args below meth c R h0 H locs ls hCx hl1 hl2 hlv hls hP ho hl)
                    · split at h4
                      · rename_i hv
                        cases h4
                        exact am_rd_ok hx hb hF hI hP ho hown hv hd hck (ih _ _ _ _ _ _ _ _ hr p e s m args below meth c R h0 H locs ls hCx hl1 hl2 hlv hls hP ho hl)
                      · split at h4
                        · rename_i hv
                          cases h4
                          refine am_wr_ok hx hb hF hI hP ho hl hown hini hv hd hck hpl (fun H' locs' q1 q2 q3 q4 q5 => ?_)
                          have w := ih _ _ _ _ _ _ _ _ hr p e s m args below meth c R h0 H' locs' ls hCx (by omega) (by omega) hlv hls q1 q2 q3
                          rw [q4, q5] at w
                          exact w
                        · split at h4
                          · rename_i st2 cl hv
                            cases h4
                            rw [am_sz_push, List.length_append, List.length_singleton] at hl4
                            refine am_mk_ok hx hb hF hP ho hown hv hd hck (by omega) (by omega) (fun H' q1 q2 => ?_)
                            have w := ih _ _ _ _ _ _ _ _ hr p e s m args below meth c R h0 H' locs ls hCx (by rw [List.length_append]; omega) (by rw [am_sz_push]; omega) hlv hls q1 q2 hl
                            rw [am_sz_push, List.length_append, List.length_singleton, show h.length + 1 - h0.length = h.length - h0.length + 1 by omega, show am_sz h + am_cs cl - am_sz h0 = am_sz h - am_sz h0 + am_cs cl by omega] at w
                            exact w
                          · split at h4
                            · rename_i hv
                              cases h4
                              exact hS mi pc len i i0 st _ hd hck hv p e R s m args below meth c H locs _ _ _ ls hx hb hown hLt ho (by omega) (by omega) (by rw [hls.1, hlv, hml]) (by omega) (by omega) (ih _ _ _ _ _ _ _ _ hr p e s m args below meth c R h0 H locs ls hCx hl1 hl2 hlv hls hP ho hl)
                            · cases h4
end AmSound
end
section
/-! What the soundness leans on, paid: the bytes. -/
theorem am_hd : am_HD := by
  intro mi pc len i h
  have h1 := List.all_eq_true.mp (am_kall mi) _ (am_find_mem h)
  unfold am_chk at h1
  split at h1
  · rename_i i0 l0 hd
    simp only [Bool.and_eq_true, decide_eq_true_eq] at h1
    obtain ⟨⟨h2, h3⟩, h4⟩ := h1
    subst h2
    refine ⟨i0, hd, h3, fun k hk => ?_⟩
    subst hk
    exact h4
  · cases h1
end
section
/-! The tables' words at every later state of the run; the methods' own words, by their places. -/
def am_w (s0 : State) (w : Jvm.Cond) : Prop := ∀ (args : Array Value) (U : State), s0.WarmedH U.vm → w.before args U = true
theorem am_w_of {a0 : Array Value} {s0 : State} (hts : ∀ w ∈ lw_tbl, w.before a0 s0 = true) {w : Jvm.Cond} (i : Nat) (hi : lw_tbl[i]? = some w) (hg : goodWord w = true) : am_w s0 w := fun args U hW => word_at hW (good_of_word hg) (hts w (List.mem_of_getElem? hi))
/-- where a method's code stands among the words -/
def am_wiL : List Nat := [0, 77, 86, 159, 163, 167, 171, 174, 179, 183, 255, 258, 261, 267, 271, 275, 281, 285, 288, 321, 326, 339, 343, 347, 350, 354, 358, 363, 373, 396, 402, 408, 418, 428, 434, 438, 448, 454, 458, 464, 467, 472, 477, 480, 501, 505, 510, 521, 531, 535, 539, 548, 560, 565, 569, 573, 577, 581, 584, 592, 596, 601, 604, 608, 611, 615, 618, 623, 627, 632, 651, 655, 658, 662, 665, 669, 672, 676, 679, 683, 686, 691, 710, 714, 718, 721, 725, 729, 733, 737, 742, 747, 751, 756, 762, 887, 891, 895, 899, 903, 907, 910, 914, 919, 923, 927, 931, 935, 938, 942, 946, 949, 953, 957, 961, 965, 969, 972, 975, 978, 981, 984, 987, 991, 994, 997, 1000, 1004, 1008, 1011, 1015, 1019, 1023, 1027, 1031, 1035, 1039, 1043, 1047, 1051, 1055, 1059, 1063, 1067, 1070, 1074, 1078, 1082, 1086, 1090]
def am_wi (mi : Nat) : Nat := am_wiL.getD mi 0
/-- where a class is said to be initialised -/
def am_iiL : List Nat := [49, 50, 51, 62, 57, 58, 63, 64, 65, 66, 68, 67, 69, 61, 52]
def am_ii (ow : Nat) : Nat := am_iiL.getD ow 0
set_option maxRecDepth 100000 in
theorem am_q1 : lw_tbl[am_wi 1]? = some (am_cw 1) := by rfl
set_option maxRecDepth 100000 in
theorem am_q2 : lw_tbl[am_wi 2]? = some (am_cw 2) := by rfl
set_option maxRecDepth 100000 in
theorem am_q3 : lw_tbl[am_wi 3]? = some (am_cw 3) := by rfl
set_option maxRecDepth 100000 in
theorem am_q4 : lw_tbl[am_wi 4]? = some (am_cw 4) := by rfl
set_option maxRecDepth 100000 in
theorem am_q5 : lw_tbl[am_wi 5]? = some (am_cw 5) := by rfl
set_option maxRecDepth 100000 in
theorem am_q6 : lw_tbl[am_wi 6]? = some (am_cw 6) := by rfl
set_option maxRecDepth 100000 in
theorem am_q7 : lw_tbl[am_wi 7]? = some (am_cw 7) := by rfl
set_option maxRecDepth 100000 in
theorem am_q8 : lw_tbl[am_wi 8]? = some (am_cw 8) := by rfl
set_option maxRecDepth 100000 in
theorem am_q9 : lw_tbl[am_wi 9]? = some (am_cw 9) := by rfl
set_option maxRecDepth 100000 in
theorem am_q10 : lw_tbl[am_wi 10]? = some (am_cw 10) := by rfl
set_option maxRecDepth 100000 in
theorem am_q11 : lw_tbl[am_wi 11]? = some (am_cw 11) := by rfl
set_option maxRecDepth 100000 in
theorem am_q12 : lw_tbl[am_wi 12]? = some (am_cw 12) := by rfl
set_option maxRecDepth 100000 in
theorem am_q13 : lw_tbl[am_wi 13]? = some (am_cw 13) := by rfl
set_option maxRecDepth 100000 in
theorem am_q14 : lw_tbl[am_wi 14]? = some (am_cw 14) := by rfl
set_option maxRecDepth 100000 in
theorem am_q15 : lw_tbl[am_wi 15]? = some (am_cw 15) := by rfl
set_option maxRecDepth 100000 in
theorem am_q16 : lw_tbl[am_wi 16]? = some (am_cw 16) := by rfl
set_option maxRecDepth 100000 in
theorem am_q17 : lw_tbl[am_wi 17]? = some (am_cw 17) := by rfl
set_option maxRecDepth 100000 in
theorem am_q18 : lw_tbl[am_wi 18]? = some (am_cw 18) := by rfl
set_option maxRecDepth 100000 in
theorem am_q19 : lw_tbl[am_wi 19]? = some (am_cw 19) := by rfl
set_option maxRecDepth 100000 in
theorem am_q20 : lw_tbl[am_wi 20]? = some (am_cw 20) := by rfl
set_option maxRecDepth 100000 in
theorem am_q21 : lw_tbl[am_wi 21]? = some (am_cw 21) := by rfl
set_option maxRecDepth 100000 in
theorem am_q22 : lw_tbl[am_wi 22]? = some (am_cw 22) := by rfl
set_option maxRecDepth 100000 in
theorem am_q23 : lw_tbl[am_wi 23]? = some (am_cw 23) := by rfl
set_option maxRecDepth 100000 in
theorem am_q24 : lw_tbl[am_wi 24]? = some (am_cw 24) := by rfl
set_option maxRecDepth 100000 in
theorem am_q25 : lw_tbl[am_wi 25]? = some (am_cw 25) := by rfl
set_option maxRecDepth 100000 in
theorem am_q26 : lw_tbl[am_wi 26]? = some (am_cw 26) := by rfl
set_option maxRecDepth 100000 in
theorem am_q27 : lw_tbl[am_wi 27]? = some (am_cw 27) := by rfl
set_option maxRecDepth 100000 in
theorem am_q28 : lw_tbl[am_wi 28]? = some (am_cw 28) := by rfl
set_option maxRecDepth 100000 in
theorem am_q29 : lw_tbl[am_wi 29]? = some (am_cw 29) := by rfl
set_option maxRecDepth 100000 in
theorem am_q30 : lw_tbl[am_wi 30]? = some (am_cw 30) := by rfl
set_option maxRecDepth 100000 in
theorem am_q31 : lw_tbl[am_wi 31]? = some (am_cw 31) := by rfl
set_option maxRecDepth 100000 in
theorem am_q32 : lw_tbl[am_wi 32]? = some (am_cw 32) := by rfl
set_option maxRecDepth 100000 in
theorem am_q33 : lw_tbl[am_wi 33]? = some (am_cw 33) := by rfl
set_option maxRecDepth 100000 in
theorem am_q34 : lw_tbl[am_wi 34]? = some (am_cw 34) := by rfl
set_option maxRecDepth 100000 in
theorem am_q35 : lw_tbl[am_wi 35]? = some (am_cw 35) := by rfl
set_option maxRecDepth 100000 in
theorem am_q36 : lw_tbl[am_wi 36]? = some (am_cw 36) := by rfl
set_option maxRecDepth 100000 in
theorem am_q37 : lw_tbl[am_wi 37]? = some (am_cw 37) := by rfl
set_option maxRecDepth 100000 in
theorem am_q38 : lw_tbl[am_wi 38]? = some (am_cw 38) := by rfl
set_option maxRecDepth 100000 in
theorem am_q39 : lw_tbl[am_wi 39]? = some (am_cw 39) := by rfl
set_option maxRecDepth 100000 in
theorem am_q40 : lw_tbl[am_wi 40]? = some (am_cw 40) := by rfl
set_option maxRecDepth 100000 in
theorem am_q41 : lw_tbl[am_wi 41]? = some (am_cw 41) := by rfl
set_option maxRecDepth 100000 in
theorem am_q42 : lw_tbl[am_wi 42]? = some (am_cw 42) := by rfl
set_option maxRecDepth 100000 in
theorem am_q43 : lw_tbl[am_wi 43]? = some (am_cw 43) := by rfl
set_option maxRecDepth 100000 in
theorem am_q44 : lw_tbl[am_wi 44]? = some (am_cw 44) := by rfl
set_option maxRecDepth 100000 in
theorem am_q45 : lw_tbl[am_wi 45]? = some (am_cw 45) := by rfl
set_option maxRecDepth 100000 in
theorem am_q46 : lw_tbl[am_wi 46]? = some (am_cw 46) := by rfl
set_option maxRecDepth 100000 in
theorem am_q47 : lw_tbl[am_wi 47]? = some (am_cw 47) := by rfl
set_option maxRecDepth 100000 in
theorem am_q48 : lw_tbl[am_wi 48]? = some (am_cw 48) := by rfl
set_option maxRecDepth 100000 in
theorem am_q49 : lw_tbl[am_wi 49]? = some (am_cw 49) := by rfl
set_option maxRecDepth 100000 in
theorem am_q50 : lw_tbl[am_wi 50]? = some (am_cw 50) := by rfl
set_option maxRecDepth 100000 in
theorem am_q51 : lw_tbl[am_wi 51]? = some (am_cw 51) := by rfl
set_option maxRecDepth 100000 in
theorem am_q52 : lw_tbl[am_wi 52]? = some (am_cw 52) := by rfl
set_option maxRecDepth 100000 in
theorem am_q53 : lw_tbl[am_wi 53]? = some (am_cw 53) := by rfl
set_option maxRecDepth 100000 in
theorem am_q54 : lw_tbl[am_wi 54]? = some (am_cw 54) := by rfl
set_option maxRecDepth 100000 in
theorem am_q55 : lw_tbl[am_wi 55]? = some (am_cw 55) := by rfl
set_option maxRecDepth 100000 in
theorem am_q56 : lw_tbl[am_wi 56]? = some (am_cw 56) := by rfl
set_option maxRecDepth 100000 in
theorem am_q57 : lw_tbl[am_wi 57]? = some (am_cw 57) := by rfl
set_option maxRecDepth 100000 in
theorem am_q58 : lw_tbl[am_wi 58]? = some (am_cw 58) := by rfl
set_option maxRecDepth 100000 in
theorem am_q59 : lw_tbl[am_wi 59]? = some (am_cw 59) := by rfl
set_option maxRecDepth 100000 in
theorem am_q60 : lw_tbl[am_wi 60]? = some (am_cw 60) := by rfl
set_option maxRecDepth 100000 in
theorem am_q61 : lw_tbl[am_wi 61]? = some (am_cw 61) := by rfl
set_option maxRecDepth 100000 in
theorem am_q62 : lw_tbl[am_wi 62]? = some (am_cw 62) := by rfl
set_option maxRecDepth 100000 in
theorem am_q63 : lw_tbl[am_wi 63]? = some (am_cw 63) := by rfl
set_option maxRecDepth 100000 in
theorem am_q64 : lw_tbl[am_wi 64]? = some (am_cw 64) := by rfl
set_option maxRecDepth 100000 in
theorem am_q65 : lw_tbl[am_wi 65]? = some (am_cw 65) := by rfl
set_option maxRecDepth 100000 in
theorem am_q66 : lw_tbl[am_wi 66]? = some (am_cw 66) := by rfl
set_option maxRecDepth 100000 in
theorem am_q67 : lw_tbl[am_wi 67]? = some (am_cw 67) := by rfl
set_option maxRecDepth 100000 in
theorem am_q68 : lw_tbl[am_wi 68]? = some (am_cw 68) := by rfl
set_option maxRecDepth 100000 in
theorem am_q69 : lw_tbl[am_wi 69]? = some (am_cw 69) := by rfl
set_option maxRecDepth 100000 in
theorem am_q70 : lw_tbl[am_wi 70]? = some (am_cw 70) := by rfl
set_option maxRecDepth 100000 in
theorem am_q71 : lw_tbl[am_wi 71]? = some (am_cw 71) := by rfl
set_option maxRecDepth 100000 in
theorem am_q72 : lw_tbl[am_wi 72]? = some (am_cw 72) := by rfl
set_option maxRecDepth 100000 in
theorem am_q73 : lw_tbl[am_wi 73]? = some (am_cw 73) := by rfl
set_option maxRecDepth 100000 in
theorem am_q74 : lw_tbl[am_wi 74]? = some (am_cw 74) := by rfl
set_option maxRecDepth 100000 in
theorem am_q75 : lw_tbl[am_wi 75]? = some (am_cw 75) := by rfl
set_option maxRecDepth 100000 in
theorem am_q76 : lw_tbl[am_wi 76]? = some (am_cw 76) := by rfl
set_option maxRecDepth 100000 in
theorem am_q77 : lw_tbl[am_wi 77]? = some (am_cw 77) := by rfl
set_option maxRecDepth 100000 in
theorem am_q78 : lw_tbl[am_wi 78]? = some (am_cw 78) := by rfl
set_option maxRecDepth 100000 in
theorem am_q79 : lw_tbl[am_wi 79]? = some (am_cw 79) := by rfl
set_option maxRecDepth 100000 in
theorem am_q80 : lw_tbl[am_wi 80]? = some (am_cw 80) := by rfl
set_option maxRecDepth 100000 in
theorem am_q81 : lw_tbl[am_wi 81]? = some (am_cw 81) := by rfl
set_option maxRecDepth 100000 in
theorem am_q82 : lw_tbl[am_wi 82]? = some (am_cw 82) := by rfl
set_option maxRecDepth 100000 in
theorem am_q83 : lw_tbl[am_wi 83]? = some (am_cw 83) := by rfl
set_option maxRecDepth 100000 in
theorem am_q84 : lw_tbl[am_wi 84]? = some (am_cw 84) := by rfl
set_option maxRecDepth 100000 in
theorem am_q85 : lw_tbl[am_wi 85]? = some (am_cw 85) := by rfl
set_option maxRecDepth 100000 in
theorem am_q86 : lw_tbl[am_wi 86]? = some (am_cw 86) := by rfl
set_option maxRecDepth 100000 in
theorem am_q87 : lw_tbl[am_wi 87]? = some (am_cw 87) := by rfl
set_option maxRecDepth 100000 in
theorem am_q88 : lw_tbl[am_wi 88]? = some (am_cw 88) := by rfl
set_option maxRecDepth 100000 in
theorem am_q89 : lw_tbl[am_wi 89]? = some (am_cw 89) := by rfl
set_option maxRecDepth 100000 in
theorem am_q90 : lw_tbl[am_wi 90]? = some (am_cw 90) := by rfl
set_option maxRecDepth 100000 in
theorem am_q91 : lw_tbl[am_wi 91]? = some (am_cw 91) := by rfl
set_option maxRecDepth 100000 in
theorem am_q92 : lw_tbl[am_wi 92]? = some (am_cw 92) := by rfl
set_option maxRecDepth 100000 in
theorem am_q93 : lw_tbl[am_wi 93]? = some (am_cw 93) := by rfl
set_option maxRecDepth 100000 in
theorem am_q94 : lw_tbl[am_wi 94]? = some (am_cw 94) := by rfl
set_option maxRecDepth 100000 in
theorem am_q95 : lw_tbl[am_wi 95]? = some (am_cw 95) := by rfl
set_option maxRecDepth 100000 in
theorem am_q96 : lw_tbl[am_wi 96]? = some (am_cw 96) := by rfl
set_option maxRecDepth 100000 in
theorem am_q97 : lw_tbl[am_wi 97]? = some (am_cw 97) := by rfl
set_option maxRecDepth 100000 in
theorem am_q98 : lw_tbl[am_wi 98]? = some (am_cw 98) := by rfl
set_option maxRecDepth 100000 in
theorem am_q99 : lw_tbl[am_wi 99]? = some (am_cw 99) := by rfl
set_option maxRecDepth 100000 in
theorem am_q100 : lw_tbl[am_wi 100]? = some (am_cw 100) := by rfl
set_option maxRecDepth 100000 in
theorem am_q101 : lw_tbl[am_wi 101]? = some (am_cw 101) := by rfl
set_option maxRecDepth 100000 in
theorem am_q102 : lw_tbl[am_wi 102]? = some (am_cw 102) := by rfl
set_option maxRecDepth 100000 in
theorem am_q103 : lw_tbl[am_wi 103]? = some (am_cw 103) := by rfl
set_option maxRecDepth 100000 in
theorem am_q104 : lw_tbl[am_wi 104]? = some (am_cw 104) := by rfl
set_option maxRecDepth 100000 in
theorem am_q105 : lw_tbl[am_wi 105]? = some (am_cw 105) := by rfl
set_option maxRecDepth 100000 in
theorem am_q106 : lw_tbl[am_wi 106]? = some (am_cw 106) := by rfl
set_option maxRecDepth 100000 in
theorem am_q107 : lw_tbl[am_wi 107]? = some (am_cw 107) := by rfl
set_option maxRecDepth 100000 in
theorem am_q108 : lw_tbl[am_wi 108]? = some (am_cw 108) := by rfl
set_option maxRecDepth 100000 in
theorem am_q109 : lw_tbl[am_wi 109]? = some (am_cw 109) := by rfl
set_option maxRecDepth 100000 in
theorem am_q110 : lw_tbl[am_wi 110]? = some (am_cw 110) := by rfl
set_option maxRecDepth 100000 in
theorem am_q111 : lw_tbl[am_wi 111]? = some (am_cw 111) := by rfl
set_option maxRecDepth 100000 in
theorem am_q112 : lw_tbl[am_wi 112]? = some (am_cw 112) := by rfl
set_option maxRecDepth 100000 in
theorem am_q113 : lw_tbl[am_wi 113]? = some (am_cw 113) := by rfl
set_option maxRecDepth 100000 in
theorem am_q114 : lw_tbl[am_wi 114]? = some (am_cw 114) := by rfl
set_option maxRecDepth 100000 in
theorem am_q115 : lw_tbl[am_wi 115]? = some (am_cw 115) := by rfl
set_option maxRecDepth 100000 in
theorem am_q116 : lw_tbl[am_wi 116]? = some (am_cw 116) := by rfl
set_option maxRecDepth 100000 in
theorem am_q117 : lw_tbl[am_wi 117]? = some (am_cw 117) := by rfl
set_option maxRecDepth 100000 in
theorem am_q118 : lw_tbl[am_wi 118]? = some (am_cw 118) := by rfl
set_option maxRecDepth 100000 in
theorem am_q119 : lw_tbl[am_wi 119]? = some (am_cw 119) := by rfl
set_option maxRecDepth 100000 in
theorem am_q120 : lw_tbl[am_wi 120]? = some (am_cw 120) := by rfl
set_option maxRecDepth 100000 in
theorem am_q121 : lw_tbl[am_wi 121]? = some (am_cw 121) := by rfl
set_option maxRecDepth 100000 in
theorem am_q122 : lw_tbl[am_wi 122]? = some (am_cw 122) := by rfl
set_option maxRecDepth 100000 in
theorem am_q123 : lw_tbl[am_wi 123]? = some (am_cw 123) := by rfl
set_option maxRecDepth 100000 in
theorem am_q124 : lw_tbl[am_wi 124]? = some (am_cw 124) := by rfl
set_option maxRecDepth 100000 in
theorem am_q125 : lw_tbl[am_wi 125]? = some (am_cw 125) := by rfl
set_option maxRecDepth 100000 in
theorem am_q126 : lw_tbl[am_wi 126]? = some (am_cw 126) := by rfl
set_option maxRecDepth 100000 in
theorem am_q127 : lw_tbl[am_wi 127]? = some (am_cw 127) := by rfl
set_option maxRecDepth 100000 in
theorem am_q128 : lw_tbl[am_wi 128]? = some (am_cw 128) := by rfl
set_option maxRecDepth 100000 in
theorem am_q129 : lw_tbl[am_wi 129]? = some (am_cw 129) := by rfl
set_option maxRecDepth 100000 in
theorem am_q130 : lw_tbl[am_wi 130]? = some (am_cw 130) := by rfl
set_option maxRecDepth 100000 in
theorem am_q131 : lw_tbl[am_wi 131]? = some (am_cw 131) := by rfl
set_option maxRecDepth 100000 in
theorem am_q132 : lw_tbl[am_wi 132]? = some (am_cw 132) := by rfl
set_option maxRecDepth 100000 in
theorem am_q133 : lw_tbl[am_wi 133]? = some (am_cw 133) := by rfl
set_option maxRecDepth 100000 in
theorem am_q134 : lw_tbl[am_wi 134]? = some (am_cw 134) := by rfl
set_option maxRecDepth 100000 in
theorem am_q135 : lw_tbl[am_wi 135]? = some (am_cw 135) := by rfl
set_option maxRecDepth 100000 in
theorem am_q136 : lw_tbl[am_wi 136]? = some (am_cw 136) := by rfl
set_option maxRecDepth 100000 in
theorem am_q137 : lw_tbl[am_wi 137]? = some (am_cw 137) := by rfl
set_option maxRecDepth 100000 in
theorem am_q138 : lw_tbl[am_wi 138]? = some (am_cw 138) := by rfl
set_option maxRecDepth 100000 in
theorem am_q139 : lw_tbl[am_wi 139]? = some (am_cw 139) := by rfl
set_option maxRecDepth 100000 in
theorem am_q140 : lw_tbl[am_wi 140]? = some (am_cw 140) := by rfl
set_option maxRecDepth 100000 in
theorem am_q141 : lw_tbl[am_wi 141]? = some (am_cw 141) := by rfl
set_option maxRecDepth 100000 in
theorem am_q142 : lw_tbl[am_wi 142]? = some (am_cw 142) := by rfl
set_option maxRecDepth 100000 in
theorem am_q143 : lw_tbl[am_wi 143]? = some (am_cw 143) := by rfl
set_option maxRecDepth 100000 in
theorem am_q144 : lw_tbl[am_wi 144]? = some (am_cw 144) := by rfl
set_option maxRecDepth 100000 in
theorem am_q145 : lw_tbl[am_wi 145]? = some (am_cw 145) := by rfl
set_option maxRecDepth 100000 in
theorem am_q146 : lw_tbl[am_wi 146]? = some (am_cw 146) := by rfl
set_option maxRecDepth 100000 in
theorem am_q147 : lw_tbl[am_wi 147]? = some (am_cw 147) := by rfl
set_option maxRecDepth 100000 in
theorem am_q148 : lw_tbl[am_wi 148]? = some (am_cw 148) := by rfl
set_option maxRecDepth 100000 in
theorem am_q149 : lw_tbl[am_wi 149]? = some (am_cw 149) := by rfl
theorem am_okm_lt {mi : Nat} (h : am_okm mi = true) : mi < 150 := by
  unfold am_okm at h
  simp only [Bool.and_eq_true, decide_eq_true_eq] at h
  exact h.1.2
theorem am_qall : ∀ mi : Nat, am_okm mi = true → lw_tbl[am_wi mi]? = some (am_cw mi)
  | 0, h => by cases h
  | 1, _ => am_q1
  | 2, _ => am_q2
  | 3, _ => am_q3
  | 4, _ => am_q4
  | 5, _ => am_q5
  | 6, _ => am_q6
  | 7, _ => am_q7
  | 8, _ => am_q8
  | 9, _ => am_q9
  | 10, _ => am_q10
  | 11, _ => am_q11
  | 12, _ => am_q12
  | 13, _ => am_q13
  | 14, _ => am_q14
  | 15, _ => am_q15
  | 16, _ => am_q16
  | 17, _ => am_q17
  | 18, _ => am_q18
  | 19, _ => am_q19
  | 20, _ => am_q20
  | 21, _ => am_q21
  | 22, _ => am_q22
  | 23, _ => am_q23
  | 24, _ => am_q24
  | 25, _ => am_q25
  | 26, _ => am_q26
  | 27, _ => am_q27
  | 28, _ => am_q28
  | 29, _ => am_q29
  | 30, _ => am_q30
  | 31, _ => am_q31
  | 32, _ => am_q32
  | 33, _ => am_q33
  | 34, _ => am_q34
  | 35, _ => am_q35
  | 36, _ => am_q36
  | 37, _ => am_q37
  | 38, _ => am_q38
  | 39, _ => am_q39
  | 40, _ => am_q40
  | 41, _ => am_q41
  | 42, _ => am_q42
  | 43, _ => am_q43
  | 44, _ => am_q44
  | 45, _ => am_q45
  | 46, _ => am_q46
  | 47, _ => am_q47
  | 48, _ => am_q48
  | 49, _ => am_q49
  | 50, _ => am_q50
  | 51, _ => am_q51
  | 52, _ => am_q52
  | 53, _ => am_q53
  | 54, _ => am_q54
  | 55, _ => am_q55
  | 56, _ => am_q56
  | 57, _ => am_q57
  | 58, _ => am_q58
  | 59, _ => am_q59
  | 60, _ => am_q60
  | 61, _ => am_q61
  | 62, _ => am_q62
  | 63, _ => am_q63
  | 64, _ => am_q64
  | 65, _ => am_q65
  | 66, _ => am_q66
  | 67, _ => am_q67
  | 68, _ => am_q68
  | 69, _ => am_q69
  | 70, _ => am_q70
  | 71, _ => am_q71
  | 72, _ => am_q72
  | 73, _ => am_q73
  | 74, _ => am_q74
  | 75, _ => am_q75
  | 76, _ => am_q76
  | 77, _ => am_q77
  | 78, _ => am_q78
  | 79, _ => am_q79
  | 80, _ => am_q80
  | 81, _ => am_q81
  | 82, _ => am_q82
  | 83, _ => am_q83
  | 84, _ => am_q84
  | 85, _ => am_q85
  | 86, _ => am_q86
  | 87, _ => am_q87
  | 88, _ => am_q88
  | 89, _ => am_q89
  | 90, _ => am_q90
  | 91, _ => am_q91
  | 92, _ => am_q92
  | 93, _ => am_q93
  | 94, _ => am_q94
  | 95, _ => am_q95
  | 96, _ => am_q96
  | 97, _ => am_q97
  | 98, _ => am_q98
  | 99, _ => am_q99
  | 100, _ => am_q100
  | 101, _ => am_q101
  | 102, _ => am_q102
  | 103, _ => am_q103
  | 104, _ => am_q104
  | 105, _ => am_q105
  | 106, _ => am_q106
  | 107, _ => am_q107
  | 108, _ => am_q108
  | 109, _ => am_q109
  | 110, _ => am_q110
  | 111, _ => am_q111
  | 112, _ => am_q112
  | 113, _ => am_q113
  | 114, _ => am_q114
  | 115, _ => am_q115
  | 116, _ => am_q116
  | 117, _ => am_q117
  | 118, _ => am_q118
  | 119, _ => am_q119
  | 120, _ => am_q120
  | 121, _ => am_q121
  | 122, _ => am_q122
  | 123, _ => am_q123
  | 124, _ => am_q124
  | 125, _ => am_q125
  | 126, _ => am_q126
  | 127, _ => am_q127
  | 128, _ => am_q128
  | 129, _ => am_q129
  | 130, _ => am_q130
  | 131, _ => am_q131
  | 132, _ => am_q132
  | 133, _ => am_q133
  | 134, _ => am_q134
  | 135, _ => am_q135
  | 136, _ => am_q136
  | 137, _ => am_q137
  | 138, _ => am_q138
  | 139, _ => am_q139
  | 140, _ => am_q140
  | 141, _ => am_q141
  | 142, _ => am_q142
  | 143, _ => am_q143
  | 144, _ => am_q144
  | 145, _ => am_q145
  | 146, _ => am_q146
  | 147, _ => am_q147
  | 148, _ => am_q148
  | 149, _ => am_q149
  | n + 150, h => absurd (am_okm_lt h) (by omega)
set_option maxRecDepth 100000 in
theorem am_iall : (List.range 15).all (fun ow => decide (lw_tbl[am_ii ow]? = some (Jvm.Cond.initialized (am_ow ow)))) = true := by decide +kernel
set_option maxRecDepth 100000 in
theorem am_nall : (List.range 150).all (fun mi => !am_okm mi || decide (am_mo mi < 15) && decide (am_ow (am_mo mi) = (am_mn mi).cls) && plainName (am_mn mi).cls && decide (am_ml mi ≤ 45) && decide ((am_mn mi).cls ≠ "java/lang/invoke/MethodHandle") && decide ((am_mn mi).cls ≠ "java/lang/invoke/VarHandle")) = true := by decide +kernel
theorem am_nat {mi : Nat} (h : am_okm mi = true) : am_mo mi < 15 ∧ am_ow (am_mo mi) = (am_mn mi).cls ∧ plainName (am_mn mi).cls = true ∧ am_ml mi ≤ 45 ∧ (am_mn mi).cls ≠ "java/lang/invoke/MethodHandle" ∧ (am_mn mi).cls ≠ "java/lang/invoke/VarHandle" := by
  have q := List.all_eq_true.mp am_nall mi (List.mem_range.mpr (am_okm_lt h))
  rw [h] at q
  simp only [Bool.not_true, Bool.false_or, Bool.and_eq_true, decide_eq_true_eq] at q
  exact ⟨q.1.1.1.1.1, q.1.1.1.1.2, q.1.1.1.2, q.1.1.2, q.1.2, q.2⟩
theorem am_cw_good (mi : Nat) : goodWord (am_cw mi) = true := by
  unfold am_cw
  split <;> rfl
theorem am_hw {a0 : Array Value} {s0 : State} (hts : ∀ w ∈ lw_tbl, w.before a0 s0 = true) : am_HW s0 := by
  intro mi hok
  obtain ⟨n1, n2, n3, n4, -⟩ := am_nat hok
  refine ⟨n3, n4, fun args U hW => ⟨am_w_of hts (am_wi mi) (am_qall mi hok) (am_cw_good mi) args U hW, ?_⟩⟩
  rw [← n2]
  have q := List.all_eq_true.mp am_iall (am_mo mi) (List.mem_range.mpr n1)
  rw [decide_eq_true_eq] at q
  exact am_w_of hts _ q rfl args U hW
theorem am_hn1 : ∀ mi, am_okm mi = true → (am_ini mi = true → (am_mn mi).name = "<init>") ∧ am_ow (am_mo mi) = (am_mn mi).cls := by
  intro mi hok
  refine ⟨fun h => ?_, (am_nat hok).2.1⟩
  unfold am_ini at h
  exact of_decide_eq_true h
theorem am_hn2 : ∀ mi, am_noh mi = true → am_hs mi = [] := by
  intro mi h
  unfold am_noh at h
  exact List.isEmpty_iff.mp h
end
section
/-! Static fields and the words of a throw, out of the printed names (vx_). -/
/-- the words of a throw but the four that speak of the heap -/
def vx_no (w : Cond) : Bool := decide (w ≠ .isRef (.static Bundle.tN "UNASSIGNED_STACK" Bundle.steD)) && decide (w ≠ .isRef (.static Bundle.tN "SUPPRESSED_SENTINEL" Bundle.listD)) && decide (w ≠ .laysStatic Bundle.tN "UNASSIGNED_STACK" Bundle.steD) && decide (w ≠ .laysStatic Bundle.tN "SUPPRESSED_SENTINEL" Bundle.listD)
def vx_at0 (own : String) (ic : Nat) (X : String) (names : List String) : List Cond := (Bundle.ownAtoms0 own ic X names).filter vx_no
def vx_atS (own : String) (ic : Nat) (X : String) (names : List String) : List Cond := (Bundle.ownAtoms own ic X names).filter vx_no
/-- a word that the tables alone decide, or a good one -/
def vx_ot (w : Cond) : Bool := w.onTables || goodWord w
theorem vx_ot_at {args a' : Array Value} {s U : State} {w : Cond} (hW : s.WarmedH U.vm) (hvm : s.vm = U.vm) (hg : vx_ot w = true) (h : w.before args s = true) : w.before a' U = true := by
  simp only [vx_ot, Bool.or_eq_true] at hg
  rcases hg with hg | hg
  · exact va_tabs hg hvm h
  · exact word_at hW (good_of_word hg) h
/-- a list's words: the good ones out of the method's own list, the others by premises of their own -/
theorem vx_hat {args : Array Value} {s : State} {L B : List Cond} (h1 : ∀ w ∈ L.filter goodWord, w.before args s = true) (h2 : ∀ w ∈ L.filter (fun w => !goodWord w), w ∈ B) (h3 : ∀ w ∈ B, w.before args s = true) : ∀ w ∈ L, w.before args s = true := by
  intro w hw
  by_cases g : goodWord w = true
  · exact h1 w (List.mem_filter.mpr ⟨hw, g⟩)
  · refine h3 w (h2 w (List.mem_filter.mpr ⟨hw, ?_⟩))
    show (!goodWord w) = true
    cases hgw : goodWord w
    · rfl
    · exact absurd hgw g
theorem vx_c {args : Array Value} {s : State} {w : Cond} {B : List Cond} (h : w.before args s = true) (t : ∀ w ∈ B, w.before args s = true) : ∀ w' ∈ w :: B, w'.before args s = true := fun w' h' => (List.mem_cons.mp h').elim (fun e => by rw [e]; exact h) (t w')
theorem vx_n {args : Array Value} {s : State} : ∀ w ∈ ([] : List Cond), w.before args s = true := fun _ h => nomatch h
theorem vx_own {args : Array Value} {s : State} {L : List Cond} (h1 : ∀ w ∈ L.filter vx_no, w.before args s = true)
    (hU : (Cond.isRef (.static Bundle.tN "UNASSIGNED_STACK" Bundle.steD)).before args s = true) (hN : (Cond.isRef (.static Bundle.tN "SUPPRESSED_SENTINEL" Bundle.listD)).before args s = true)
    (lU : (Cond.laysStatic Bundle.tN "UNASSIGNED_STACK" Bundle.steD).before args s = true) (lN : (Cond.laysStatic Bundle.tN "SUPPRESSED_SENTINEL" Bundle.listD).before args s = true) : ∀ w ∈ L, w.before args s = true := by
  intro w hw
  by_cases e1 : w = .isRef (.static Bundle.tN "UNASSIGNED_STACK" Bundle.steD)
  · rw [e1]; exact hU
  · by_cases e2 : w = .isRef (.static Bundle.tN "SUPPRESSED_SENTINEL" Bundle.listD)
    · rw [e2]; exact hN
    · by_cases e3 : w = .laysStatic Bundle.tN "UNASSIGNED_STACK" Bundle.steD
      · rw [e3]; exact lU
      · by_cases e4 : w = .laysStatic Bundle.tN "SUPPRESSED_SENTINEL" Bundle.listD
        · rw [e4]; exact lN
        · exact h1 w (List.mem_filter.mpr ⟨hw, by unfold vx_no; rw [decide_eq_true e1, decide_eq_true e2, decide_eq_true e3, decide_eq_true e4]; rfl⟩)
/-- where a static field lies, its class's statics cell in H -/
def vx_L (C n d : String) (A : Nat → Prop) (U : State) (H : Heap) : Prop := ∃ (c : ClassId) (k : Class) (i : Nat) (f : Field) (a : Nat) (cell : Cell), U.vm.findClass C = some c ∧ U.fieldFound? C n d = some (c, k, i, f) ∧ f.isStatic = true ∧ k.statics = some a ∧ H[a]? = some cell ∧ cell.vm.isStatics = true ∧ cell.cls = c ∧ f.slot < cell.slots.size ∧ k.staticTypes[f.slot]? = some f.type ∧ ¬ A a
theorem vx_L.moved {C n d : String} {A : Nat → Prop} {u U : State} {H : Heap} (hvm : u.vm.Alike U.vm) (h : vx_L C n d A u H) : vx_L C n d A U H := by
  obtain ⟨c, k, i, f, a, cell, h1, h2, h3, h4, h5, h6, h7, h8, h9, h10⟩ := h
  obtain ⟨k', hi', he⟩ := State.fieldFound?_setVm hvm h2
  exact ⟨c, k', i, f, a, cell, by rw [hvm.findClass]; exact h1, hi', h3, by rw [he]; exact h4, h5, h6, h7, h8, by rw [he]; exact h9, h10⟩
theorem vx_L.kept {C n d : String} {A : Nat → Prop} {U : State} {H H1 : Heap} (h : vx_L C n d A U H) (hq : ∀ a : Nat, a < H.size → ¬ A a → H1[a]? = H[a]?) : vx_L C n d A U H1 := by
  obtain ⟨c, k, i, f, a, cell, h1, h2, h3, h4, h5, h6, h7, h8, h9, h10⟩ := h
  exact ⟨c, k, i, f, a, cell, h1, h2, h3, h4, by rw [hq a (Array.getElem?_eq_some_iff.mp h5).1 h10]; exact h5, h6, h7, h8, h9, h10⟩
theorem vx_L.narrow {C n d : String} {A B : Nat → Prop} {U : State} {H : Heap} (h : vx_L C n d A U H) (hAB : ∀ q, B q → A q) : vx_L C n d B U H := by
  obtain ⟨c, k, i, f, a, cell, h1, h2, h3, h4, h5, h6, h7, h8, h9, h10⟩ := h
  exact ⟨c, k, i, f, a, cell, h1, h2, h3, h4, h5, h6, h7, h8, h9, fun z => h10 (hAB _ z)⟩
theorem vx_L.word {C n d : String} {A : Nat → Prop} {s : State} {args : Array Value} (h : vx_L C n d A s s.heap) : (Cond.laysStatic C n d).before args s = true := by
  obtain ⟨c, k, i, f, a, cell, h1, h2, h3, h4, h5, h6, h7, h8, h9, -⟩ := h
  show (Cond.laysStatic C n d).holds args s none s [] = true
  exact Cond.laysStatic_of h1 h2 h3 h4 h5 h6 h7 h8 h9
/-- .. and what it holds: null or some reference -/
def vx_Zq (C n d : String) (A : Nat → Prop) (U : State) (H : Heap) : Prop := va_Zq C n d A U H ∧ vx_L C n d A U H
theorem vx_Zq.moved {C n d : String} {A : Nat → Prop} {u U : State} {H : Heap} (hvm : u.vm.Alike U.vm) (h : vx_Zq C n d A u H) : vx_Zq C n d A U H := ⟨va_Zq.moved hvm h.1, vx_L.moved hvm h.2⟩
theorem vx_Zq.kept {C n d : String} {A : Nat → Prop} {U : State} {H H1 : Heap} (h : vx_Zq C n d A U H) (hq : ∀ a : Nat, a < H.size → ¬ A a → H1[a]? = H[a]?) : vx_Zq C n d A U H1 := ⟨va_Zq.kept h.1 hq, vx_L.kept h.2 hq⟩
theorem vx_Zq.narrow {C n d : String} {A B : Nat → Prop} {U : State} {H : Heap} (h : vx_Zq C n d A U H) (hAB : ∀ q, B q → A q) : vx_Zq C n d B U H := ⟨va_Zq.narrow h.1 hAB, vx_L.narrow h.2 hAB⟩
theorem vx_Zqof {args : Array Value} {s : State} {C n d : String} {A : Nat → Prop} (hl : (Cond.laysStatic C n d).before args s = true) (hini : (Cond.initialized C).before args s = true) (h : (Cond.isRef (.static C n d)).before args s = true) (hA : ∀ a : Nat, a < s.heap.size → ¬ A a) : vx_Zq C n d A s s.heap := by
  refine ⟨va_Zqof hl hini h hA, ?_⟩
  obtain ⟨c, k, i, f, a, cell, h1, h2, h3, h4, h5, h6, h7, h8, h9⟩ := Cond.laysStatic_spec hl
  exact ⟨c, k, i, f, a, cell, h1, h2, h3, h4, h5, h6, h7, h8, h9, hA a (Array.getElem?_eq_some_iff.mp h5).1⟩
theorem vx_isRef {C n d : String} {v : Value} {A : Nat → Prop} {s : State} {args : Array Value} (h : va_Z C n d v A s s.heap) (hv : v.isRef = true) : (Cond.isRef (.static C n d)).before args s = true := by
  obtain ⟨cf, kf, fi, f, a, cell, h1, h2, h3, h4, h5, h6, h7, -⟩ := h
  have he : (Term.static C n d).eval args s none [] s = some v := by
    simp [Term.eval, State.fieldNamed?, h1, h2, h4, h5, h6, h7]
  simp only [Cond.before, Cond.holds, Cond.value, he]
  cases v <;> simp_all [Value.isRef]
theorem vx_isRefq {C n d : String} {A : Nat → Prop} {s : State} {args : Array Value} (h : va_Zq C n d A s s.heap) : (Cond.isRef (.static C n d)).before args s = true := by
  rcases h with h | ⟨t, h⟩
  · exact vx_isRef h rfl
  · exact vx_isRef h rfl
end
section
/-! The call sites: how each is linked, by the places of its words. Kinds: 0 the method that is named, 1 one that the receiver's class selects for it, 2 through an interface, 3 static, 4 static in a nest mate, 5 constructor, 6 constructor of a nest mate. -/
def am_stL : List (Nat × Nat × Nat × MethodName × String) := [(5, 0, 52, ⟨"ToldShields", "<init>", "()V"⟩, ""),
  (5, 0, 55, ⟨"ToldShieldsModel", "<init>", "()V"⟩, ""),
  (0, 0, 56, ⟨"ToldShields", "type", "(C)Z"⟩, ""),
  (0, 0, 60, ⟨"ToldShieldsModel", "type", "(C)Z"⟩, ""),
  (0, 0, 61, ⟨"ToldShields", "wipe", "()I"⟩, ""),
  (0, 0, 65, ⟨"ToldShieldsModel", "wipe", "()I"⟩, ""),
  (3, 0, 66, ⟨"ToldShieldsLaw", "read", "(LToldShields;I[J)I"⟩, ""),
  (0, 0, 71, ⟨"ToldShieldsModel", "read", "(I)I"⟩, ""),
  (0, 0, 72, ⟨"ToldShieldsModel", "thrown", "()I"⟩, ""),
  (3, 0, 75, ⟨"ToldShieldsLaw", "cell", "(LToldShields;III[J)I"⟩, ""),
  (0, 0, 78, ⟨"ToldShieldsModel", "cell", "(III)I"⟩, ""),
  (3, 0, 79, ⟨"ToldShieldsLaw", "row", "(LToldShields;III[J)I"⟩, ""),
  (0, 0, 81, ⟨"ToldShieldsModel", "row", "(III)I"⟩, ""),
  (3, 0, 82, ⟨"ToldShieldsLaw", "cells", "(LToldShields;II[J)I"⟩, ""),
  (0, 0, 85, ⟨"ToldShieldsModel", "cells", "(II)I"⟩, ""),
  (3, 0, 86, ⟨"ToldShieldsLaw", "differ", "(LToldShields;II[J)I"⟩, ""),
  (0, 0, 88, ⟨"ToldShieldsModel", "differ", "(II)I"⟩, ""),
  (3, 0, 89, ⟨"ToldShieldsLaw", "breaches", "(LToldShields;I[J)I"⟩, ""),
  (0, 0, 91, ⟨"ToldShieldsModel", "breaches", "(I)I"⟩, ""),
  (3, 0, 92, ⟨"ToldShieldsLaw", "breach", "(LToldShields;II[J)I"⟩, ""),
  (0, 0, 94, ⟨"ToldShieldsModel", "breach", "(II)I"⟩, ""),
  (3, 0, 95, ⟨"ToldShieldsLaw", "count", "(LToldShields;II[J)I"⟩, ""),
  (0, 0, 97, ⟨"ToldShieldsModel", "count", "(II)I"⟩, ""),
  (3, 0, 98, ⟨"ToldShieldsLaw", "same", "(LToldShields;II[J)I"⟩, ""),
  (0, 0, 100, ⟨"ToldShieldsModel", "same", "(II)Z"⟩, ""),
  (3, 0, 101, ⟨"ToldShieldsLaw", "tell", "(LToldShields;I[J)I"⟩, ""),
  (0, 0, 103, ⟨"ToldShieldsModel", "tell", "(I)I"⟩, ""),
  (3, 0, 104, ⟨"ToldShieldsLaw", "turned", "(LToldShields;I[J)I"⟩, ""),
  (0, 0, 106, ⟨"ToldShieldsModel", "turned", "(I)I"⟩, ""),
  (0, 0, 107, ⟨"ToldShields", "length", "()I"⟩, ""),
  (0, 0, 110, ⟨"ToldShieldsModel", "length", "()I"⟩, ""),
  (0, 0, 111, ⟨"ToldShields", "charAt", "(I)C"⟩, ""),
  (0, 0, 115, ⟨"ToldShieldsModel", "charAt", "(I)C"⟩, ""),
  (6, 1, 22, ⟨"ToldShields$Told", "<init>", "()V"⟩, "ToldShields"),
  (0, 0, 7, ⟨"ToldShields", "read", "(I)I"⟩, ""),
  (0, 1, 31, ⟨"ToldShields", "refuseNoShield", "(I)V"⟩, ""),
  (0, 1, 35, ⟨"ToldShields$Told", "splitText", "([CI)V"⟩, ""),
  (5, 1, 41, ⟨"ToldShields$Reader", "<init>", "(LToldShields$Told;)V"⟩, ""),
  (0, 1, 44, ⟨"ToldShields$Reader", "readWhole", "()LToldShields$Shield;"⟩, ""),
  (0, 1, 51, ⟨"ToldShields$Told", "paint", "(LToldShields$Shield;)V"⟩, ""),
  (4, 2, 28, ⟨"ToldShields", "isLetter", "(C)Z"⟩, "ToldShields"),
  (3, 2, 32, ⟨"ToldShields$Told", "wordSpelled", "([CII)LToldShields$Word;"⟩, ""),
  (0, 2, 36, ⟨"ToldShields$Told", "addWord", "(LToldShields$Word;)V"⟩, ""),
  (0, 2, 43, ⟨"ToldShields$Word", "isSpelled", "([CII)Z"⟩, ""),
  (0, 3, 153, ⟨"java/lang/String", "length", "()I"⟩, ""),
  (0, 3, 159, ⟨"java/lang/String", "charAt", "(I)C"⟩, ""),
  (0, 4, 335, ⟨"java/lang/String", "coder", "()B"⟩, ""),
  (0, 4, 492, ⟨"java/lang/String", "isLatin1", "()Z"⟩, ""),
  (3, 4, 495, ⟨"java/lang/StringLatin1", "charAt", "([BI)C"⟩, ""),
  (0, 6, 15, ⟨"ToldShields$Told", "forgetCounts", "()V"⟩, ""),
  (0, 6, 20, ⟨"ToldShields$Reader", "readShield", "(I)LToldShields$Shield;"⟩, ""),
  (0, 6, 43, ⟨"ToldShields$Reader", "readField", "(I)LToldShields$Shield;"⟩, ""),
  (0, 6, 46, ⟨"ToldShields$Told", "wordAt", "(I)LToldShields$Word;"⟩, ""),
  (0, 6, 55, ⟨"ToldShields$Reader", "readItem", "(LToldShields$Shield;)Z"⟩, ""),
  (5, 6, 64, ⟨"ToldShields$Plain", "<init>", "(I)V"⟩, ""),
  (5, 6, 69, ⟨"ToldShields$Shield", "<init>", "(LToldShields$Word;LToldShields$Part;LToldShields$Part;)V"⟩, ""),
  (0, 6, 72, ⟨"ToldShields$Reader", "readDivision", "()LToldShields$Word;"⟩, ""),
  (0, 6, 76, ⟨"ToldShields$Reader", "readPart", "(I)LToldShields$Part;"⟩, ""),
  (0, 6, 84, ⟨"ToldShields$Reader", "take", "(LToldShields$Word;)Z"⟩, ""),
  (0, 6, 94, ⟨"ToldShields$Word", "canFollowPer", "()Z"⟩, ""),
  (0, 6, 110, ⟨"ToldShields$Reader", "readCharges", "(LToldShields$Shield;LToldShields$Ordinary;)Z"⟩, ""),
  (0, 6, 114, ⟨"ToldShields$Reader", "readOrdinary", "(LToldShields$Shield;)LToldShields$Ordinary;"⟩, ""),
  (0, 6, 123, ⟨"ToldShields$Word", "canBeCharged", "()Z"⟩, ""),
  (0, 6, 132, ⟨"ToldShields$Shield", "canBeCounterchanged", "()Z"⟩, ""),
  (0, 6, 135, ⟨"ToldShields$Reader", "readCoat", "(Z)I"⟩, ""),
  (0, 6, 139, ⟨"ToldShields$Shield", "isBrokenBy", "(I)Z"⟩, ""),
  (4, 6, 156, ⟨"ToldShields", "breaksLaw", "(II)Z"⟩, "ToldShields"),
  (0, 6, 143, ⟨"ToldShields$Told", "addBreach", "(I)V"⟩, ""),
  (5, 6, 162, ⟨"ToldShields$Charges", "<init>", "(LToldShields$Word;ILToldShields$Word;I)V"⟩, ""),
  (0, 6, 149, ⟨"ToldShields$Shield", "addLayer", "(LToldShields$Layer;)V"⟩, ""),
  (2, 9, 32, ⟨"ToldShields$Part", "plainTincture", "()I"⟩, ""),
  (4, 9, 38, ⟨"ToldShields", "breaksLaw", "(II)Z"⟩, "ToldShields"),
  (5, 10, 1, ⟨"ToldShields$Layer", "<init>", "(I)V"⟩, ""),
  (5, 6, 146, ⟨"ToldShields$Ordinary", "<init>", "(LToldShields$Word;I)V"⟩, ""),
  (5, 12, 1, ⟨"ToldShields$Layer", "<init>", "(I)V"⟩, ""),
  (0, 2, 66, ⟨"ToldShields$Shield", "tinctureAt", "(IIII)I"⟩, ""),
  (0, 9, 42, ⟨"ToldShields$Shield", "fieldAt", "(IIII)I"⟩, ""),
  (1, 9, 46, ⟨"ToldShields$Layer", "covers", "(IIII)Z"⟩, "ToldShields$Layer"),
  (0, 9, 53, ⟨"ToldShields$Shield", "otherThan", "(I)I"⟩, ""),
  (2, 9, 57, ⟨"ToldShields$Part", "tinctureAt", "(IIII)I"⟩, ""),
  (0, 10, 25, ⟨"ToldShields$Charges", "rowsCover", "(IIIII)Z"⟩, ""),
  (0, 10, 35, ⟨"ToldShields$Charges", "chargesInRow", "(I)I"⟩, ""),
  (0, 10, 39, ⟨"ToldShields$Charges", "rowCovers", "(IIIII)Z"⟩, ""),
  (0, 10, 48, ⟨"ToldShields$Charges", "chargeCovers", "(IIII)Z"⟩, ""),
  (1, 10, 61, ⟨"ToldShields$Word", "ordinal", "()I"⟩, "java/lang/Enum"),
  (1, 12, 19, ⟨"ToldShields$Word", "ordinal", "()I"⟩, "java/lang/Enum"),
  (3, 12, 25, ⟨"ToldShields$Ordinary", "isMiddle", "(II)Z"⟩, ""),
  (3, 12, 29, ⟨"ToldShields$Ordinary", "isBend", "(IIII)Z"⟩, ""),
  (3, 12, 33, ⟨"ToldShields$Ordinary", "isChevron", "(IIII)Z"⟩, ""),
  (3, 12, 36, ⟨"ToldShields$Ordinary", "isEdge", "(II)Z"⟩, ""),
  (0, 0, 15, ⟨"ToldShields", "cell", "(III)I"⟩, ""),
  (0, 1, 62, ⟨"ToldShields", "refuseNoPlace", "(I)V"⟩, ""),
  (0, 1, 65, ⟨"ToldShields", "toldOf", "(I)LToldShields$Told;"⟩, ""),
  (0, 0, 21, ⟨"ToldShields", "row", "(III)I"⟩, ""),
  (0, 0, 24, ⟨"ToldShields", "cells", "(II)I"⟩, ""),
  (0, 0, 28, ⟨"ToldShields", "differ", "(II)I"⟩, ""),
  (0, 0, 31, ⟨"ToldShields", "breaches", "(I)I"⟩, ""),
  (0, 0, 34, ⟨"ToldShields", "breach", "(II)I"⟩, ""),
  (0, 0, 37, ⟨"ToldShields", "count", "(II)I"⟩, ""),
  (0, 0, 42, ⟨"ToldShields", "same", "(II)Z"⟩, ""),
  (0, 1, 98, ⟨"ToldShields$Told", "hasWordsOf", "(LToldShields$Told;)Z"⟩, ""),
  (0, 0, 46, ⟨"ToldShields", "tell", "(I)I"⟩, ""),
  (0, 1, 102, ⟨"ToldShields", "writePage", "(LToldShields$Told;Z)V"⟩, ""),
  (0, 1, 121, ⟨"ToldShields", "writeChar", "(C)V"⟩, ""),
  (0, 1, 129, ⟨"ToldShields$Word", "turnedWord", "()LToldShields$Word;"⟩, ""),
  (0, 1, 135, ⟨"ToldShields", "writeWord", "(LToldShields$Word;)V"⟩, ""),
  (0, 1, 143, ⟨"java/lang/String", "length", "()I"⟩, ""),
  (0, 1, 149, ⟨"java/lang/String", "charAt", "(I)C"⟩, ""),
  (0, 0, 49, ⟨"ToldShields", "turned", "(I)I"⟩, ""),
  (0, 14, 79, ⟨"ToldShieldsModel", "set", "(IJJ)V"⟩, ""),
  (0, 14, 257, ⟨"ToldShieldsModel", "refused", "(I)Z"⟩, ""),
  (0, 14, 260, ⟨"ToldShieldsModel", "cutWords", "()V"⟩, ""),
  (0, 14, 263, ⟨"ToldShieldsModel", "readAll", "()I"⟩, ""),
  (0, 14, 267, ⟨"ToldShieldsModel", "paint", "(II)I"⟩, ""),
  (0, 14, 270, ⟨"ToldShieldsModel", "countAll", "(I)V"⟩, ""),
  (0, 14, 274, ⟨"ToldShieldsModel", "judge", "(I)V"⟩, ""),
  (3, 14, 165, ⟨"ToldShieldsModel", "isLetter", "(I)Z"⟩, ""),
  (0, 14, 169, ⟨"ToldShieldsModel", "find", "(II)I"⟩, ""),
  (0, 14, 204, ⟨"ToldShieldsModel", "newShield", "(I)I"⟩, ""),
  (0, 14, 197, ⟨"ToldShieldsModel", "push", "(II)V"⟩, ""),
  (0, 14, 208, ⟨"ToldShieldsModel", "take", "(III)I"⟩, ""),
  (0, 14, 179, ⟨"ToldShieldsModel", "takeField", "(II)I"⟩, ""),
  (0, 14, 182, ⟨"ToldShieldsModel", "takePart", "(II)I"⟩, ""),
  (0, 14, 185, ⟨"ToldShieldsModel", "takeItems", "(II)I"⟩, ""),
  (0, 14, 188, ⟨"ToldShieldsModel", "takeBehindA", "(II)I"⟩, ""),
  (3, 14, 191, ⟨"ToldShieldsModel", "isTincture", "(I)Z"⟩, ""),
  (0, 14, 194, ⟨"ToldShieldsModel", "isTwofold", "(I)Z"⟩, ""),
  (3, 14, 201, ⟨"ToldShieldsModel", "isNumber", "(I)Z"⟩, ""),
  (0, 14, 247, ⟨"ToldShieldsModel", "isFirst", "(IIIII)Z"⟩, ""),
  (0, 14, 250, ⟨"ToldShieldsModel", "given", "(IZIIII)I"⟩, ""),
  (3, 14, 240, ⟨"ToldShieldsModel", "isCharged", "(IIIIII)Z"⟩, ""),
  (0, 14, 244, ⟨"ToldShieldsModel", "isOnOrdinary", "(IIIII)Z"⟩, ""),
  (3, 14, 237, ⟨"ToldShieldsModel", "isOrdinary", "(IIIII)Z"⟩, ""),
  (3, 14, 223, ⟨"ToldShieldsModel", "stripe", "(III)I"⟩, ""),
  (3, 14, 230, ⟨"ToldShieldsModel", "inRow", "(II)I"⟩, ""),
  (3, 14, 233, ⟨"ToldShieldsModel", "isInRow", "(IIIIIIII)Z"⟩, ""),
  (3, 14, 226, ⟨"ToldShieldsModel", "isCharge", "(IIIII)Z"⟩, ""),
  (3, 14, 212, ⟨"ToldShieldsModel", "size", "(I)I"⟩, ""),
  (3, 14, 215, ⟨"ToldShieldsModel", "isBend", "(IIII)Z"⟩, ""),
  (3, 14, 219, ⟨"ToldShieldsModel", "isChevron", "(II)Z"⟩, ""),
  (3, 14, 254, ⟨"ToldShieldsModel", "classOf", "(I)I"⟩, ""),
  (0, 14, 277, ⟨"ToldShieldsModel", "ground", "(I)I"⟩, ""),
  (0, 14, 280, ⟨"ToldShieldsModel", "isBroken", "(II)Z"⟩, ""),
  (0, 14, 283, ⟨"ToldShieldsModel", "wrong", "(IZ)I"⟩, ""),
  (0, 14, 287, ⟨"ToldShieldsModel", "wrongTwo", "(II)I"⟩, ""),
  (0, 14, 303, ⟨"ToldShieldsModel", "write", "(IZ)I"⟩, ""),
  (3, 14, 296, ⟨"ToldShieldsModel", "other", "(I)I"⟩, ""),
  (0, 14, 293, ⟨"ToldShieldsModel", "put", "(I)V"⟩, ""),
  (0, 14, 299, ⟨"ToldShieldsModel", "putLetters", "(J)V"⟩, "")]
def am_site (x : Nat) : Nat × Nat × Nat × MethodName × String := am_stL.getD x (9, 0, 0, ⟨"", "", ""⟩, "")
/-- for each target of a site the places of its words -/
def am_tiL : List (List (List Nat)) := [[[75, 76]],
  [[754, 755]],
  [[156, 157, 158]],
  [[888, 889, 890]],
  [[160, 161, 162]],
  [[892, 893, 894]],
  [[172, 173]],
  [[896, 897, 898]],
  [[884, 885, 886]],
  [[616, 617]],
  [[1020, 1021, 1022]],
  [[649, 650]],
  [[1028, 1029, 1030]],
  [[656, 657]],
  [[1032, 1033, 1034]],
  [[663, 664]],
  [[1036, 1037, 1038]],
  [[670, 671]],
  [[1044, 1045, 1046]],
  [[677, 678]],
  [[1048, 1049, 1050]],
  [[684, 685]],
  [[1052, 1053, 1054]],
  [[708, 709]],
  [[1056, 1057, 1058]],
  [[719, 720]],
  [[1060, 1061, 1062]],
  [[745, 746]],
  [[1079, 1080, 1081]],
  [[164, 165, 166]],
  [[1083, 1084, 1085]],
  [[168, 169, 170]],
  [[1087, 1088, 1089]],
  [[84, 85]],
  [[176, 177, 178]],
  [[180, 182, 0]],
  [[252, 253, 254]],
  [[324, 325]],
  [[336, 337, 338]],
  [[528, 529, 530]],
  [[256, 257]],
  [[259, 260]],
  [[318, 320, 2]],
  [[264, 265, 266]],
  [[268, 269, 270]],
  [[278, 279, 280]],
  [[272, 273, 274]],
  [[282, 283, 284]],
  [[286, 287]],
  [[340, 341, 342]],
  [[344, 346, 3]],
  [[351, 353, 4]],
  [[355, 356, 357]],
  [[425, 427, 8]],
  [[361, 362]],
  [[371, 372]],
  [[393, 395, 5]],
  [[415, 417, 7]],
  [[399, 401, 6]],
  [[405, 406, 407]],
  [[431, 433, 9]],
  [[502, 504, 11]],
  [[518, 519, 520]],
  [[435, 436, 437]],
  [[455, 457, 10]],
  [[461, 462, 463]],
  [[468, 466]],
  [[469, 470, 471]],
  [[475, 476]],
  [[498, 499, 500]],
  [[440, 442, 441, 444, 446, 447, 445, 443], [440, 442, 441, 450, 452, 453, 451, 449]],
  [[465, 466]],
  [[478, 479], [478, 479]],
  [[508, 509]],
  [[511, 479], [511, 479]],
  [[532, 533, 534]],
  [[536, 538, 12]],
  [[555, 557, 558, 559, 556], [555, 557, 594, 595, 556]],
  [[612, 614, 17]],
  [[541, 543, 542, 544, 546, 547, 545, 443], [541, 543, 542, 549, 533, 551, 550, 449]],
  [[562, 564, 13]],
  [[566, 568, 14]],
  [[574, 576, 15]],
  [[578, 580, 16]],
  [[587, 588, 590, 591, 589]],
  [[598, 588, 590, 591, 589]],
  [[599, 600]],
  [[602, 603]],
  [[606, 607]],
  [[609, 610]],
  [[620, 621, 622]],
  [[624, 626, 18]],
  [[629, 631, 19]],
  [[652, 653, 654]],
  [[659, 660, 661]],
  [[666, 667, 668]],
  [[673, 674, 675]],
  [[680, 681, 682]],
  [[688, 689, 690]],
  [[711, 712, 713]],
  [[715, 716, 717]],
  [[722, 723, 724]],
  [[726, 728, 20]],
  [[730, 732, 21]],
  [[734, 735, 736]],
  [[739, 741, 22]],
  [[743, 269, 270]],
  [[744, 279, 280]],
  [[748, 749, 750]],
  [[759, 761, 23]],
  [[900, 902, 24]],
  [[904, 906, 25]],
  [[916, 918, 27]],
  [[958, 960, 36]],
  [[1001, 1003, 40]],
  [[1005, 1007, 41]],
  [[908, 909]],
  [[911, 913, 26]],
  [[920, 922, 28]],
  [[924, 926, 29]],
  [[928, 930, 30]],
  [[932, 934, 31]],
  [[939, 941, 32]],
  [[943, 945, 33]],
  [[950, 952, 34]],
  [[936, 937]],
  [[954, 956, 35]],
  [[947, 948]],
  [[962, 964, 37]],
  [[966, 968, 38]],
  [[970, 971]],
  [[988, 990, 39]],
  [[992, 993]],
  [[973, 974]],
  [[976, 977]],
  [[979, 980]],
  [[982, 983]],
  [[985, 986]],
  [[995, 996]],
  [[998, 999]],
  [[1009, 1010]],
  [[1012, 1014, 42]],
  [[1016, 1018, 43]],
  [[1024, 1026, 44]],
  [[1040, 1042, 45]],
  [[1064, 1066, 46]],
  [[1068, 1069]],
  [[1071, 1073, 47]],
  [[1075, 1077, 48]]]
/-- the words that a call at site x on a receiver of the kind ci to the method mj asks for -/
def am_seW (x ci mj : Nat) : List Jvm.Cond := match (am_site x).1 with
  | 0 => [.methodLink (am_ow (am_site x).2.1) (am_site x).2.2.1 (am_mn mj), .instanceMethod (am_mn mj), .selects (am_cn ci) (am_mn mj) (am_mn mj)]
  | 1 => [.methodLink (am_ow (am_site x).2.1) (am_site x).2.2.1 (am_site x).2.2.2.1, .sameMethod (am_site x).2.2.2.1.cls (am_site x).2.2.2.2 (am_site x).2.2.2.1.name (am_site x).2.2.2.1.desc, .selects (am_cn ci) (am_site x).2.2.2.1 (am_mn mj), .instanceMethod (am_mn mj), .declares ⟨(am_site x).2.2.2.2, (am_site x).2.2.2.1.name, (am_site x).2.2.2.1.desc⟩]
  | 2 => [.methodLink (am_ow (am_site x).2.1) (am_site x).2.2.1 (am_site x).2.2.2.1, .declares (am_site x).2.2.2.1, .interfaceMethod (am_site x).2.2.2.1.cls (am_site x).2.2.2.1.cls (am_site x).2.2.2.1.name (am_site x).2.2.2.1.desc, .selects (am_cn ci) (am_site x).2.2.2.1 (am_mn mj), .instanceMethod (am_mn mj), .publicMethod (am_mn mj), .unhidden (am_cn ci) (am_site x).2.2.2.1.name (am_site x).2.2.2.1.desc, .castable (am_cn ci) (am_site x).2.2.2.1.cls]
  | 3 => [.methodLink (am_ow (am_site x).2.1) (am_site x).2.2.1 (am_mn mj), .static (am_mn mj)]
  | 4 => [.methodLinkNest (am_ow (am_site x).2.1) (am_site x).2.2.1 (am_mn mj) (am_site x).2.2.2.2, .static (am_mn mj)]
  | 5 => [.methodLink (am_ow (am_site x).2.1) (am_site x).2.2.1 (am_mn mj), .instanceMethod (am_mn mj)]
  | 6 => [.methodLinkNest (am_ow (am_site x).2.1) (am_site x).2.2.1 (am_mn mj) (am_site x).2.2.2.2, .instanceMethod (am_mn mj)]
  | _ => []
/-- how many parameters -/
def am_np (d : String) : Option Nat := (parseMethodDescriptor d).map (fun d => d.parameters.length)
def am_seB (x : Nat) (t : Nat × Nat) (is : List Nat) : Bool :=
  decide (is.map (fun i => lw_tbl[i]?) = (am_seW x t.1 t.2).map some) && decide ((am_site x).1 ≤ 6) &&
  (match am_arg x with
    | some (n, stt) => decide (stt = decide ((am_site x).1 = 3 ∨ (am_site x).1 = 4)) && (if stt = true then decide (am_np (am_mn t.2).desc = some n) else decide (am_np (am_mn t.2).desc = some (n - 1)) && decide (am_np (am_site x).2.2.2.1.desc = some (n - 1)) && decide (1 ≤ n))
    | none => false) &&
  (if 5 ≤ (am_site x).1 then decide ((am_mn t.2).name = "<init>") else true) &&
  decide ((am_site x).2.2.2.1.cls ≠ "java/lang/invoke/MethodHandle") && decide ((am_site x).2.2.2.1.cls ≠ "java/lang/invoke/VarHandle") && decide ((am_site x).2.2.2.2 ≠ "java/lang/invoke/MethodHandle") && decide ((am_site x).2.2.2.2 ≠ "java/lang/invoke/VarHandle")
def am_seX (x : Nat) : Bool := decide ((am_tgL.getD x []).length = (am_tiL.getD x []).length) && ((am_tgL.getD x []).zip (am_tiL.getD x [])).all (fun q => am_seB x q.1 q.2)
set_option maxRecDepth 100000 in
theorem am_sx0 : ((List.range 20).drop 0).all am_seX = true := by decide +kernel
set_option maxRecDepth 100000 in
theorem am_sx1 : ((List.range 40).drop 20).all am_seX = true := by decide +kernel
set_option maxRecDepth 100000 in
theorem am_sx2 : ((List.range 60).drop 40).all am_seX = true := by decide +kernel
set_option maxRecDepth 100000 in
theorem am_sx3 : ((List.range 80).drop 60).all am_seX = true := by decide +kernel
set_option maxRecDepth 100000 in
theorem am_sx4 : ((List.range 100).drop 80).all am_seX = true := by decide +kernel
set_option maxRecDepth 100000 in
theorem am_sx5 : ((List.range 120).drop 100).all am_seX = true := by decide +kernel
set_option maxRecDepth 100000 in
theorem am_sx6 : ((List.range 140).drop 120).all am_seX = true := by decide +kernel
set_option maxRecDepth 100000 in
theorem am_sx7 : ((List.range 149).drop 140).all am_seX = true := by decide +kernel
theorem am_sx {x : Nat} (h : x < 149) : am_seX x = true := by
  have key : ∀ {a b : Nat}, ((List.range b).drop a).all am_seX = true → a ≤ x → x < b → am_seX x = true := by
    intro a b hq h1 h2
    refine List.all_eq_true.mp hq x ?_
    refine List.mem_of_getElem? (i := x - a) ?_
    rw [List.getElem?_drop, List.getElem?_range (by omega)]
    congr 1
    omega
  by_cases h0 : x < 20
  · exact key am_sx0 (by omega) h0
  by_cases h1 : x < 40
  · exact key am_sx1 (by omega) h1
  by_cases h2 : x < 60
  · exact key am_sx2 (by omega) h2
  by_cases h3 : x < 80
  · exact key am_sx3 (by omega) h3
  by_cases h4 : x < 100
  · exact key am_sx4 (by omega) h4
  by_cases h5 : x < 120
  · exact key am_sx5 (by omega) h5
  by_cases h6 : x < 140
  · exact key am_sx6 (by omega) h6
  exact key am_sx7 (by omega) h
set_option maxRecDepth 100000 in
theorem am_ilA : am_ilL.all (fun z => decide ((am_site z.2.2).2.1 = z.1) && decide ((am_site z.2.2).2.2.1 = z.2.1)) = true := by decide +kernel
def am_opB (z : Nat × Instr × Nat) : Bool := match z.2.1 with
  | .invokevirtual x => decide ((am_site x).1 ≤ 1)
  | .invokeinterface x _ => decide ((am_site x).1 = 2)
  | .invokestatic x => decide ((am_site x).1 = 3 ∨ (am_site x).1 = 4)
  | .invokespecial x => decide ((am_site x).1 = 5 ∨ (am_site x).1 = 6)
  | _ => true
set_option maxRecDepth 100000 in
theorem am_opA : (List.range 150).all (fun mi => (am_cL mi).all am_opB) = true := by decide +kernel
theorem am_op {mi pc len : Nat} {i : Instr} (h : am_code mi pc = some (i, len)) : am_opB (pc, i, len) = true := by
  by_cases hm : mi < 150
  · exact List.all_eq_true.mp (List.all_eq_true.mp am_opA mi (List.mem_range.mpr hm)) _ (am_find_mem h)
  · obtain ⟨k, rfl⟩ := Nat.exists_eq_add_of_le (Nat.not_lt.mp hm)
    have h2 := am_find_mem h
    have h3 : am_cL (150 + k) = [] := by
      rw [Nat.add_comm]
      rfl
    rw [h3] at h2
    cases h2
end
section
/-! The call sites: what the checks give. -/
theorem am_s3_mem {a b c : Nat} : ∀ {l : List (Nat × Nat × Nat)}, am_s3 a b l = some c → (a, b, c) ∈ l := by
  intro l
  induction l with
  | nil => intro h; cases h
  | cons z r ih =>
    obtain ⟨x, y, w⟩ := z
    intro h
    rw [am_s3] at h
    split at h
    · rename_i hq
      obtain ⟨rfl, rfl⟩ := hq
      cases h
      exact List.mem_cons_self
    · exact List.mem_cons_of_mem _ (ih h)
theorem am_sk_mem {a c : Nat} : ∀ {l : List (Nat × Nat)}, am_sk a l = some c → (a, c) ∈ l := by
  intro l
  induction l with
  | nil => intro h; cases h
  | cons z r ih =>
    obtain ⟨x, w⟩ := z
    intro h
    rw [am_sk] at h
    split at h
    · rename_i hq
      subst hq
      cases h
      exact List.mem_cons_self
    · exact List.mem_cons_of_mem _ (ih h)
theorem am_tg_ok {x ci mj : Nat} (h : am_tgt x ci = some mj) : ∃ is : List Nat, am_seB x (ci, mj) is = true := by
  have hx : x < 149 := by
    by_cases hq : x < 149
    · exact hq
    · have h2 := am_sk_mem h
      rw [List.getD_eq_getElem?_getD, List.getElem?_eq_none (by show am_tgL.length ≤ x; exact Nat.not_lt.mp hq)] at h2
      cases h2
  have h2 := am_sk_mem h
  have h3 := am_sx hx
  unfold am_seX at h3
  simp only [Bool.and_eq_true, decide_eq_true_eq] at h3
  obtain ⟨k, hk⟩ := List.getElem?_of_mem h2
  have hkl := (List.getElem?_eq_some_iff.mp hk).1
  obtain ⟨is, hk2⟩ : ∃ is, (am_tiL.getD x [])[k]? = some is := ⟨_, List.getElem?_eq_getElem (by rw [← h3.1]; exact hkl)⟩
  refine ⟨is, List.all_eq_true.mp h3.2 ((ci, mj), is) (List.mem_of_getElem? (i := k) ?_)⟩
  rw [List.getElem?_zip_eq_some]
  exact ⟨hk, hk2⟩
/-- what the table's rows say of a call -/
theorem am_seB_ok {x ci mj : Nat} {is : List Nat} (h : am_seB x (ci, mj) is = true) : (∀ w ∈ am_seW x ci mj, w ∈ lw_tbl) ∧ (am_site x).1 ≤ 6 ∧
    (∃ (n : Nat) (stt : Bool), am_arg x = some (n, stt) ∧ (stt = true ↔ ((am_site x).1 = 3 ∨ (am_site x).1 = 4)) ∧ (stt = true → am_np (am_mn mj).desc = some n) ∧ (stt = false → am_np (am_mn mj).desc = some (n - 1) ∧ am_np (am_site x).2.2.2.1.desc = some (n - 1) ∧ 1 ≤ n)) ∧
    (5 ≤ (am_site x).1 → (am_mn mj).name = "<init>") ∧ ((am_site x).2.2.2.1.cls ≠ "java/lang/invoke/MethodHandle" ∧ (am_site x).2.2.2.1.cls ≠ "java/lang/invoke/VarHandle") ∧ ((am_site x).2.2.2.2 ≠ "java/lang/invoke/MethodHandle" ∧ (am_site x).2.2.2.2 ≠ "java/lang/invoke/VarHandle") := by
  unfold am_seB at h
  simp only [Bool.and_eq_true, decide_eq_true_eq] at h
  obtain ⟨⟨⟨⟨⟨⟨⟨h1, h2⟩, h3⟩, h4⟩, h5⟩, h6⟩, h7⟩, h8⟩ := h
  refine ⟨fun w hw => ?_, h2, ?_, fun h9 => ?_, ⟨h5, h6⟩, ⟨h7, h8⟩⟩
  · have hm : some w ∈ is.map (fun i => lw_tbl[i]?) := by
      rw [h1]
      exact List.mem_map.mpr ⟨w, hw, rfl⟩
    obtain ⟨i, -, hi⟩ := List.mem_map.mp hm
    exact List.mem_of_getElem? hi
  · split at h3
    · rename_i n stt harg
      simp only [Bool.and_eq_true, decide_eq_true_eq] at h3
      refine ⟨n, stt, harg, by rw [h3.1]; simp, fun hs => ?_, fun hs => ?_⟩
      · have h9 := h3.2
        rw [if_pos hs, decide_eq_true_eq] at h9
        exact h9
      · have h9 := h3.2
        rw [if_neg (by rw [hs]; decide)] at h9
        simp only [Bool.and_eq_true, decide_eq_true_eq] at h9
        exact ⟨h9.1.1, h9.1.2, h9.2⟩
    · cases h3
  · rw [if_pos h9, decide_eq_true_eq] at h4
    exact h4
end
section
/-! The invoking instructions are linked (am_HC). -/
theorem am_inv_inv {i : Instr} {st as r : List Value} {h : am_H} {mj : Nat} (e : am_inv i st h = some (mj, as, r)) : ∃ (x n : Nat) (stt : Bool), (i = .invokevirtual x ∨ i = .invokestatic x ∨ i = .invokespecial x ∨ ∃ c, i = .invokeinterface x c) ∧ am_arg x = some (n, stt) ∧ st = as.reverse ++ r ∧ as.length = n ∧
    (stt = true → am_tgt x 0 = some mj) ∧ (stt = false → ∃ (a : Nat) (as' : List Value) (ci : Nat) (fs : List Value), as = .ref a :: as' ∧ am_at h a = some (.inl (ci, fs)) ∧ am_tgt x ci = some mj) := by
  unfold am_inv at e
  split at e
  · cases e
  · rename_i x hx
    have hi : i = .invokevirtual x ∨ i = .invokestatic x ∨ i = .invokespecial x ∨ ∃ c, i = .invokeinterface x c := by
      split at hx
      · cases hx; exact Or.inl rfl
      · cases hx; exact Or.inr (Or.inl rfl)
      · cases hx; exact Or.inr (Or.inr (Or.inl rfl))
      · cases hx; exact Or.inr (Or.inr (Or.inr ⟨_, rfl⟩))
      · cases hx
    split at e
    · cases e
    · rename_i n stt harg
      split at e
      · rename_i hn
        have hcut : st = ((st.take n).reverse).reverse ++ st.drop n := by rw [List.reverse_reverse, List.take_append_drop]
        have hl : ((st.take n).reverse).length = n := by rw [List.length_reverse, List.length_take]; omega
        split at e
        · rename_i hs
          split at e
          · rename_i mj' ht
            split at e
            · cases e
              exact ⟨x, n, stt, hi, harg, hcut, hl, fun _ => ht, fun hf => by rw [hs] at hf; cases hf⟩
            · cases e
          · cases e
        · rename_i hs
          split at e
          · rename_i a as' has
            split at e
            · rename_i ci fs hat
              split at e
              · rename_i mj' ht
                split at e
                · cases e
                  exact ⟨x, n, stt, hi, harg, hcut, hl, fun hf => absurd hf hs, fun _ => ⟨a, as', ci, fs, has, hat, ht⟩⟩
                · cases e
              · cases e
            · cases e
          · cases e
      · cases e
theorem am_np_sig {d : String} {n : Nat} {sig : MethodDescriptor} (h : am_np d = some n) (hs : parseMethodDescriptor d = some sig) : sig.parameters.length = n := by
  unfold am_np at h
  rw [hs] at h
  exact Option.some.inj h
theorem am_cw_sig {mi : Nat} {args : Array Value} {s : State} {m : MethodId} (h : (am_cw mi).before args s = true) (hn : s.methodNamed? (am_mn mi) = some m) : ∃ meth, s.vm.method? m = some meth ∧ parseMethodDescriptor (am_mn mi).desc = some meth.sig := by
  unfold am_cw at h
  split at h
  · obtain ⟨meth, c, h1, h2, h3, h4, h5, h6, h7, h8⟩ := Cond.code_spec hn h
    exact ⟨meth, h1, h8⟩
  · obtain ⟨m9, meth, c, hn9, h1, h2, h3, h4, h5, h6, h7, h8⟩ := Cond.codeWith_spec h
    cases hn.symm.trans hn9
    exact ⟨meth, h1, h8⟩
theorem am_cw_named {mi : Nat} {args : Array Value} {s : State} (h : (am_cw mi).before args s = true) : ∃ m, s.methodNamed? (am_mn mi) = some m := by
  unfold am_cw at h
  split at h
  · exact Cond.code_named h
  · obtain ⟨m9, meth, c, hn9, -⟩ := Cond.codeWith_spec h
    exact ⟨m9, hn9⟩
set_option maxRecDepth 100000 in
theorem am_initA : (List.range 150).all (fun mi => decide ((am_mn mi).name = "<init>" → am_hs mi = [] ∧ am_mr mi = none)) = true := by decide +kernel
theorem am_cw_init {mi : Nat} {args : Array Value} {s : State} (hm : mi < 150) (hn : (am_mn mi).name = "<init>") (h : (am_cw mi).before args s = true) : (Jvm.Cond.code (am_mn mi) (am_mb mi) (am_ml mi) none).before args s = true := by
  have q := List.all_eq_true.mp am_initA mi (List.mem_range.mpr hm)
  rw [decide_eq_true_eq] at q
  obtain ⟨q1, q2⟩ := q hn
  unfold am_cw at h
  rw [q1, q2] at h
  exact h
theorem am_stk {X : am_X} {st as' r : List Value} {a : Nat} (h : st = (Value.ref a :: as').reverse ++ r) : st.map (am_v X) = (as'.map (am_v X)).reverse ++ Value.ref (am_ph X a) :: r.map (am_v X) := by
  subst h
  simp only [List.reverse_cons, List.append_assoc, List.map_append, List.map_reverse, List.singleton_append, List.map_cons]
  rfl
set_option maxHeartbeats 4000000 in
theorem am_hc {l : Launch} {X : am_X} {s0 : State} {a0 : Array Value} (hts : ∀ w ∈ lw_tbl, w.before a0 s0 = true) (hI : am_inj X) (hD : am_HD) (hW : am_HW s0) : am_HC l X s0 := by
  intro mi pc len i mj as r st h hc hinv p e R s m args below meth c T locs cells slots ls hx hb hown hLt hF hP ho XX
  obtain ⟨i0, hd, hck, -⟩ := hD mi pc len i hc
  refine ⟨⟨i0, by rw [hb]; exact hd⟩, ?_⟩
  obtain ⟨hokj, -, -⟩ := am_inv_fit hinv
  obtain ⟨x, n, stt, hi, harg, hst, hlen, hS, hV⟩ := am_inv_inv hinv
  have hop := am_op hc
  have hwarm := hLt.1
  obtain ⟨-, -, hwm⟩ := hW mj hokj
  have hcw := (hwm args s hwarm).1
  have hiniw := (hwm args s hwarm).2
  have hymh : (am_mn mj).cls ≠ "java/lang/invoke/MethodHandle" ∧ (am_mn mj).cls ≠ "java/lang/invoke/VarHandle" := (am_nat hokj).2.2.2.2
  have hgood : ∀ {w : Jvm.Cond}, goodWord w = true → w ∈ lw_tbl → w.before args s = true := fun hg hm => word_at hwarm (good_of_word hg) (hts _ hm)
  have hsite : ∀ {ow k : Nat}, am_il ow k = some x → (am_site x).2.1 = ow ∧ (am_site x).2.2.1 = k := by
    intro ow k hil
    have q := List.all_eq_true.mp am_ilA _ (am_s3_mem hil)
    simp only [Bool.and_eq_true, decide_eq_true_eq] at q
    exact q
  rcases hi with rfl | rfl | rfl | ⟨cnt, rfl⟩
  · simp only [am_opB, decide_eq_true_eq] at hop
    simp only [am_ck] at hck
    split at hck
    · rename_i k
      simp only [Bool.and_eq_true, decide_eq_true_eq] at hck
      obtain ⟨hil, rfl⟩ := hck
      obtain ⟨hs1, hs2⟩ := hsite hil
      have hstt : stt = false := by
        cases stt with
        | false => rfl
        | true =>
          obtain ⟨is, his⟩ := am_tg_ok (hS rfl)
          obtain ⟨-, -, ⟨n', s', g1, g2, -⟩, -⟩ := am_seB_ok his
          rw [harg] at g1
          cases g1
          have := g2.mp rfl
          omega
      obtain ⟨a, as', ci, fs, rfl, hat, htg⟩ := hV hstt
      obtain ⟨is, his⟩ := am_tg_ok htg
      obtain ⟨hws, -, ⟨n', s', g1, -, -, g4⟩, -, hnm, hox⟩ := am_seB_ok his
      rw [harg] at g1
      cases g1
      obtain ⟨g5, g6, g7⟩ := g4 hstt
      obtain ⟨cell, q1, z1, z2, z3, -⟩ := am_look hF hI hP ho hat
      have hlen' : (as'.map (am_v X)).length = n - 1 := by
        rw [List.length_map]
        simp only [List.length_cons] at hlen
        omega
      rcases (by omega : (am_site x).1 = 0 ∨ (am_site x).1 = 1) with hk | hk
      · simp only [am_seW, hk, hs1, hs2] at hws
        have w1 := hgood rfl (hws (.methodLink (am_ow (am_mo mi)) k (am_mn mj)) (by simp))
        have w2 := hgood rfl (hws (.instanceMethod (am_mn mj)) (by simp))
        have w3 := hgood rfl (hws (.selects (am_cn ci) (am_mn mj) (am_mn mj)) (by simp))
        obtain ⟨mk, methM, hnamed, hmethM, hstM, habM⟩ := Cond.instanceMethod_spec w2
        obtain ⟨methM', hmethM', hsigM⟩ := am_cw_sig hcw hnamed
        cases hmethM.symm.trans hmethM'
        obtain ⟨c2, r2, m2, p1, p2, p3, p4, kP, hkP, hkPi⟩ := Cond.selects_spec w3
        cases z3.symm.trans p1
        cases (State.methodFound?_of_named hnamed hymh).symm.trans p2
        cases hnamed.symm.trans p3
        have hselP : selectMethod e.platform s.vm cell.cls mk = .method mk := by rw [Launch.admits_selectMethod XX.admits]; exact p4
        obtain ⟨vm1, X1, hst1⟩ := XX.invokevirtual hx hown w1 hnamed hmethM hstM hkP hkPi hymh (a := am_ph X a) (cell := cell) q1
          (fun z hz => by rw [hz] at z2; cases z2) hselP hmethM habM hkP hkPi (g := F0 m pc ls (st.map (am_v X))) rfl (argsL := as'.map (am_v X)) (rest := r.map (am_v X)) (by rw [hlen', am_np_sig g5 hsigM]) (am_stk hst) (by rw [hb]; exact hd)
        exact ⟨vm1, mk, hnamed, X1, hst1⟩
      · simp only [am_seW, hk, hs1, hs2] at hws
        have w1 := hgood rfl (hws (.methodLink (am_ow (am_mo mi)) k (am_site x).2.2.2.1) (by simp))
        have w2 := hgood rfl (hws (.sameMethod (am_site x).2.2.2.1.cls (am_site x).2.2.2.2 (am_site x).2.2.2.1.name (am_site x).2.2.2.1.desc) (by simp))
        have w3 := hgood rfl (hws (.selects (am_cn ci) (am_site x).2.2.2.1 (am_mn mj)) (by simp))
        have w4 := hgood rfl (hws (.instanceMethod (am_mn mj)) (by simp))
        have w5 := va_Decl.abs (va_Nw.warmD hwarm (va_Nw.of rfl (hts _ (hws (.declares ⟨(am_site x).2.2.2.2, (am_site x).2.2.2.1.name, (am_site x).2.2.2.1.desc⟩) (by simp)))))
        obtain ⟨r0, rr, hn, hrm, hstR, hsigR⟩ := w5
        obtain ⟨cn, ck, r1, hcn, hckk, hni, hf, hn1⟩ := Cond.sameMethod_found w2
        cases hn.symm.trans hn1
        obtain ⟨mk, methM, hnamed, hmethM, -, habM⟩ := Cond.instanceMethod_spec w4
        obtain ⟨c2, r2, m2, p1, p2, p3, p4, kP, hkP, hkPi⟩ := Cond.selects_spec w3
        cases z3.symm.trans p1
        cases hf.symm.trans p2
        cases hnamed.symm.trans p3
        have hselP : selectMethod e.platform s.vm cell.cls r0 = .method mk := by rw [Launch.admits_selectMethod XX.admits]; exact p4
        obtain ⟨vm1, X1, hst1⟩ := XX.invokevirtualUp hx hown w1 w2 hox hn hrm hstR (a := am_ph X a) (cell := cell) q1
          (fun z hz => by rw [hz] at z2; cases z2) hselP hmethM habM hkP hkPi (g := F0 m pc ls (st.map (am_v X))) rfl (argsL := as'.map (am_v X)) (rest := r.map (am_v X)) (by rw [hlen', am_np_sig g6 hsigR]) (am_stk hst) (by rw [hb]; exact hd)
        exact ⟨vm1, mk, hnamed, X1, hst1⟩
    · cases hck
  · simp only [am_opB, decide_eq_true_eq] at hop
    simp only [am_ck] at hck
    split at hck
    · rename_i k
      simp only [Bool.and_eq_true, decide_eq_true_eq] at hck
      obtain ⟨hil, rfl⟩ := hck
      obtain ⟨hs1, hs2⟩ := hsite hil
      have hstt : stt = true := by
        cases stt with
        | true => rfl
        | false =>
          obtain ⟨a, as', ci, fs, -, -, htg⟩ := hV rfl
          obtain ⟨is, his⟩ := am_tg_ok htg
          obtain ⟨-, -, ⟨n', s', g1, g2, -⟩, -⟩ := am_seB_ok his
          rw [harg] at g1
          cases g1
          have := g2.mpr hop
          cases this
      obtain ⟨is, his⟩ := am_tg_ok (hS hstt)
      obtain ⟨hws, -, ⟨n', s', g1, -, g3, -⟩, -, hnm, hox⟩ := am_seB_ok his
      rw [harg] at g1
      cases g1
      have g5 := g3 hstt
      have hstk : st.map (am_v X) = (as.map (am_v X)).reverse ++ r.map (am_v X) := by
        rw [hst, List.map_append, List.map_reverse]
      rcases hop with hk | hk
      · simp only [am_seW, hk, hs1, hs2] at hws
        have w1 := hgood rfl (hws (.methodLink (am_ow (am_mo mi)) k (am_mn mj)) (by simp))
        have w2 := hgood rfl (hws (.static (am_mn mj)) (by simp))
        obtain ⟨mk, hnamed⟩ := am_cw_named hcw
        obtain ⟨methM, hmethM, hsigM⟩ := am_cw_sig hcw hnamed
        have hstatic : methM.isStatic = true := Cond.static_spec hnamed hmethM w2
        obtain ⟨kP, hkP, -⟩ := className_of_methodNamed hnamed
        have hinitP : kP.init = .initialized := Cond.initialized_spec (findClass_of_methodNamed hnamed) hkP hiniw
        obtain ⟨vm1, X1, hst1⟩ := XX.invokestatic hx hown w1 hnamed hmethM hstatic hkP hinitP hymh (g := F0 m pc ls (st.map (am_v X))) rfl (argsL := as.map (am_v X)) (rest := r.map (am_v X)) (by rw [List.length_map, hlen, am_np_sig g5 hsigM]) hstk (by rw [hb]; exact hd)
        exact ⟨vm1, mk, hnamed, X1, hst1⟩
      · simp only [am_seW, hk, hs1, hs2] at hws
        have w1 : (Jvm.Cond.methodLinkNest (am_ow (am_mo mi)) k (am_mn mj) (am_site x).2.2.2.2).before args s = true := va_Nw.use rfl (va_Nw.warmM hwarm (va_Nw.of rfl (hts _ (hws (.methodLinkNest (am_ow (am_mo mi)) k (am_mn mj) (am_site x).2.2.2.2) (by simp)))))
        have w2 := hgood rfl (hws (.static (am_mn mj)) (by simp))
        obtain ⟨mk, hnamed⟩ := am_cw_named hcw
        obtain ⟨methM, hmethM, hsigM⟩ := am_cw_sig hcw hnamed
        have hstatic : methM.isStatic = true := Cond.static_spec hnamed hmethM w2
        obtain ⟨kP, hkP, -⟩ := className_of_methodNamed hnamed
        have hinitP : kP.init = .initialized := Cond.initialized_spec (findClass_of_methodNamed hnamed) hkP hiniw
        obtain ⟨vm1, X1, hst1⟩ := XX.invokestaticNest hx hown w1 hnamed hmethM hstatic hkP hinitP hymh (g := F0 m pc ls (st.map (am_v X))) rfl (argsL := as.map (am_v X)) (rest := r.map (am_v X)) (by rw [List.length_map, hlen, am_np_sig g5 hsigM]) hstk (by rw [hb]; exact hd)
        exact ⟨vm1, mk, hnamed, X1, hst1⟩
    · cases hck
  · simp only [am_opB, decide_eq_true_eq] at hop
    simp only [am_ck] at hck
    split at hck
    · rename_i k
      simp only [Bool.and_eq_true, decide_eq_true_eq] at hck
      obtain ⟨hil, rfl⟩ := hck
      obtain ⟨hs1, hs2⟩ := hsite hil
      have hstt : stt = false := by
        cases stt with
        | false => rfl
        | true =>
          obtain ⟨is, his⟩ := am_tg_ok (hS rfl)
          obtain ⟨-, -, ⟨n', s', g1, g2, -⟩, -⟩ := am_seB_ok his
          rw [harg] at g1
          cases g1
          have := g2.mp rfl
          omega
      obtain ⟨a, as', ci, fs, rfl, hat, htg⟩ := hV hstt
      obtain ⟨is, his⟩ := am_tg_ok htg
      obtain ⟨hws, -, ⟨n', s', g1, -, -, g4⟩, hy1, hnm, hox⟩ := am_seB_ok his
      rw [harg] at g1
      cases g1
      obtain ⟨g5, g6, g7⟩ := g4 hstt
      have hy1 := hy1 (by omega)
      have hlen' : (as'.map (am_v X)).length = n - 1 := by
        rw [List.length_map]
        simp only [List.length_cons] at hlen
        omega
      have hpl : e.platform.magicAccessors = ({} : Platform).magicAccessors := by rw [XX.admits.platform]
      have hcode : (Jvm.Cond.code (am_mn mj) (am_mb mj) (am_ml mj) none).before args s = true := am_cw_init (am_okm_lt hokj) hy1 hcw
      rcases hop with hk | hk
      · simp only [am_seW, hk, hs1, hs2] at hws
        have w1 := hgood rfl (hws (.methodLink (am_ow (am_mo mi)) k (am_mn mj)) (by simp))
        have w2 := hgood rfl (hws (.instanceMethod (am_mn mj)) (by simp))
        obtain ⟨mk, methM, cM, kP, vm1, hnamed, hmethM, hcodeM, -, hlocalsM, -, hkP, -, hW1, hst1⟩ := Steps.initColdArgs (e := e) XX.here hx XX.warmed hpl hown hy1 hymh w1 w2 hcode (f := F0 m pc ls (st.map (am_v X))) rfl (argsL := as'.map (am_v X)) (rest := r.map (am_v X)) (a := am_ph X a) (fun sig hs => by rw [hlen', am_np_sig g5 hs]) (am_stk hst) (by rw [hb]; exact hd)
        exact ⟨vm1, mk, hnamed, XX.noted hW1, hst1⟩
      · simp only [am_seW, hk, hs1, hs2] at hws
        have w1 : (Jvm.Cond.methodLinkNest (am_ow (am_mo mi)) k (am_mn mj) (am_site x).2.2.2.2).before args s = true := va_Nw.use rfl (va_Nw.warmM hwarm (va_Nw.of rfl (hts _ (hws (.methodLinkNest (am_ow (am_mo mi)) k (am_mn mj) (am_site x).2.2.2.2) (by simp)))))
        have w2 := hgood rfl (hws (.instanceMethod (am_mn mj)) (by simp))
        obtain ⟨mk, methM, cM, kP, vm1, hnamed, hmethM, hcodeM, -, hlocalsM, -, hkP, -, hW1, hst1⟩ := Steps.initColdArgsNest (e := e) XX.here hx XX.warmed hpl hown hy1 hymh w1 w2 hcode (f := F0 m pc ls (st.map (am_v X))) rfl (argsL := as'.map (am_v X)) (rest := r.map (am_v X)) (a := am_ph X a) (fun sig hs => by rw [hlen', am_np_sig g5 hs]) (am_stk hst) (by rw [hb]; exact hd)
        exact ⟨vm1, mk, hnamed, XX.noted hW1, hst1⟩
    · cases hck
  · simp only [am_opB, decide_eq_true_eq] at hop
    simp only [am_ck] at hck
    split at hck
    · rename_i k cnt0
      simp only [Bool.and_eq_true, decide_eq_true_eq] at hck
      obtain ⟨⟨hil, rfl⟩, rfl⟩ := hck
      obtain ⟨hs1, hs2⟩ := hsite hil
      have hstt : stt = false := by
        cases stt with
        | false => rfl
        | true =>
          obtain ⟨is, his⟩ := am_tg_ok (hS rfl)
          obtain ⟨-, -, ⟨n', s', g1, g2, -⟩, -⟩ := am_seB_ok his
          rw [harg] at g1
          cases g1
          have := g2.mp rfl
          omega
      obtain ⟨a, as', ci, fs, rfl, hat, htg⟩ := hV hstt
      obtain ⟨is, his⟩ := am_tg_ok htg
      obtain ⟨hws, -, ⟨n', s', g1, -, -, g4⟩, -, hnm, hox⟩ := am_seB_ok his
      rw [harg] at g1
      cases g1
      obtain ⟨g5, g6, g7⟩ := g4 hstt
      obtain ⟨cell, q1, z1, z2, z3, -⟩ := am_look hF hI hP ho hat
      have hlen' : (as'.map (am_v X)).length = n - 1 := by
        rw [List.length_map]
        simp only [List.length_cons] at hlen
        omega
      simp only [am_seW, hop, hs1, hs2] at hws
      have w1 := hgood rfl (hws (.methodLink (am_ow (am_mo mi)) k (am_site x).2.2.2.1) (by simp))
      have w4 := hgood rfl (hws (.selects (am_cn ci) (am_site x).2.2.2.1 (am_mn mj)) (by simp))
      have w5 := hgood rfl (hws (.instanceMethod (am_mn mj)) (by simp))
      have hFw : va_Fw (am_cn ci) (am_site x).2.2.2.1 (am_mn mj) s := va_Fw.moved hnm hwarm.alike (va_Fw.of (A := a0) (hts _ (hws (.declares (am_site x).2.2.2.1) (by simp))) (hts _ (hws (.interfaceMethod (am_site x).2.2.2.1.cls (am_site x).2.2.2.1.cls (am_site x).2.2.2.1.name (am_site x).2.2.2.1.desc) (by simp))) (hts _ (hws (.publicMethod (am_mn mj)) (by simp))) (hts _ (hws (.unhidden (am_cn ci) (am_site x).2.2.2.1.name (am_site x).2.2.2.1.desc) (by simp))) (hts _ (hws (.castable (am_cn ci) (am_site x).2.2.2.1.cls) (by simp))))
      obtain ⟨hdecl, hface, hpub, hunh, hcast⟩ := hFw
      obtain ⟨r0, rr, hn, hrm, hstR, hsigR⟩ := Cond.declares_spec hdecl
      obtain ⟨cL, kL, r1, hcL, hkL, hiL, hfoundL, hn1⟩ := Cond.interfaceMethod_spec hface
      cases hn.symm.trans hn1
      have hr0cls : r0.cls = cL := Option.some.inj ((findClass_of_methodNamed hn).symm.trans hcL)
      obtain ⟨hnameR, hdescR⟩ := name_of_methodNamed hn hrm
      obtain ⟨mk, methM, hnamed, hmethM, -, habM⟩ := Cond.instanceMethod_spec w5
      obtain ⟨c2, r2, m2, p1, p2, p3, p4, -⟩ := Cond.selects_spec w4
      cases z3.symm.trans p1
      cases hfoundL.symm.trans p2
      cases hnamed.symm.trans p3
      have hselP : selectMethod e.platform s.vm cell.cls r0 = .method mk := by rw [Launch.admits_selectMethod XX.admits]; exact p4
      have hpubM : hasFlag methM.accessFlags Acc.public_ = true := Cond.publicMethod_spec hnamed hmethM hpub
      have hway : ((cell.cls :: s.vm.superclasses cell.cls).any fun k => (declaredIn s.vm rr.name rr.desc k).any fun (_, z) => z.isPrivate || z.isStatic) = false := by
        rw [hnameR, hdescR]; exact Cond.unhidden_spec z3 hunh
      obtain ⟨c3, t3, v1, v2, v3⟩ := Cond.castable_spec hcast
      cases z3.symm.trans v1
      cases hcL.symm.trans v2
      obtain ⟨kB, hkB, -⟩ := Vm.findClass_spec z3
      obtain ⟨vm1, X1, hst1⟩ := XX.invokeinterface hx hown w1 hn hrm hstR (by rw [hr0cls]; exact hkL) hiL hnm (a := am_ph X a) (cell := cell) (kcell := kB) q1
        (fun z hz => by rw [hz] at z2; cases z2) hkB (by rw [hr0cls]; exact v3) hselP hmethM hway hpubM habM (g := F0 m pc ls (st.map (am_v X))) rfl (argsL := as'.map (am_v X)) (rest := r.map (am_v X)) (by rw [hlen', am_np_sig g6 hsigR]) (am_stk hst) (by rw [hb]; exact hd)
      exact ⟨vm1, mk, hnamed, X1, hst1⟩
    · cases hck
end
section
/-! The calls that are one instruction in the tables: Object.<init>, String.checkIndex, Math.max, min, abs. -/
def am_Kr (f lo : Nat) : Room := { frames := f, cells := 0, slots := 0, locals := lo }
/-- a static method that neither makes nor writes a cell -/
def am_K (l : Launch) (s0 : State) (y : MethodName) (bytes : ByteArray) (ml : Nat) (ret : Option FieldType) (f lo : Nat) (H : Heap) (as : List Value) (v : Option Value) : Prop :=
  MetFree l y (headSpec [.code y bytes ml ret] (am_Kr f lo)) (fun a U => a = as.toArray ∧ s0.WarmedH U.vm ∧ U.heap = H) (fun _ _ _ _ _ => True) (fun _ st oc t => oc = .returned v ∧ t.heap = H ∧ st.WarmedH t.vm ∧ st.sameButNew ({ t with vm := st.vm } : State) [] 0 0)
def am_KQ (s : State) (below : List Frame) (H : Heap) (v : Option Value) : State → Prop := fun t => t.status = .running ∧ Ended t below (.returned v) ∧ t.heap = H ∧ s.WarmedH t.vm ∧ s.sameButNew ({ t with vm := s.vm } : State) [] 0 0
section AmSpec
variable {l : Launch} {X : am_X} {s0 : State}
theorem am_K_of {y : MethodName} {bytes : ByteArray} {ml : Nat} {ret : Option FieldType} {f lo : Nat} {H : Heap} {as : List Value} {v : Option Value} (hy : plainName y.cls = true)
    (body : ∀ (p : Program) (e : Env) (s : State) (m : MethodId) (args : Array Value) (below : List Frame) (meth : Method) (c : Code), p.tables.exec = Jvm.exec → c.code = bytes → c.maxLocals = ml → meth.sig.returnType = ret → meth.locks = false → s.vm.findClass y.cls = some m.cls → s0.WarmedH s.vm → s.heap = H →
      W p l e (am_Kr f lo) s m args below meth c H [] 0 0 (am_KQ s below H v) (F0 m 0 (lg_sl as ++ List.replicate (ml - (lg_sl as).length) Slot.unset).toArray [])) : am_K l s0 y bytes ml ret f lo H as v := by
  refine MetFree.of_bodyS (code := bytes) (maxLocals := ml) (ret := ret) hy ?_ ?_
  · intro args s m hp hn
    obtain ⟨meth, c, h1, h2, h3, h4, h5, h6, -⟩ := Cond.code_spec hn (atoms_spec (ws := [.code y bytes ml ret]) hp _ List.mem_cons_self)
    exact ⟨meth, c, h1, h2, h3, h4, h5, h6⟩
  · intro p e s m args below meth c s1 B hml hP _
    obtain ⟨rfl, hLt, hPh⟩ := hP
    have hh0 : s1.heap = s.heap := by rw [B.state]; rfl
    have hS := Stand.of_body B
    obtain ⟨t, a1, b1, b2, b3, b4, b5⟩ := body p e s m _ below meth c B.exec B.bytes hml B.returns B.notSynchronized (findClass_of_methodNamed B.named) hLt hPh s1 (by rw [hh0]; exact hPh) hS
    refine ⟨t, .returned v, ?_, b1, b2, rfl, b3, b4, b5⟩
    rw [lg_entry_eq]
    exact a1
section Walk
variable {p : Program} {e : Env} {R : Room} {s : State} {m : MethodId} {args : Array Value} {below : List Frame} {meth : Method} {c : Code} {H : Heap} {locs : List Loc} {cells slots : Nat} {Q : State → Prop}
theorem am_KQ_of {v : Option Value} (t : State) (h : MQ below (fun _ _ oc t => oc = .returned v ∧ t.heap = H ∧ s.WarmedH t.vm) args s 0 0 (fun _ => False) t) : am_KQ s below H v t := by
  obtain ⟨oc, b1, b2, ⟨q1, q2, q3⟩, L, ⟨_, w, fr⟩, hL⟩ := h
  subst q1
  have : L = [] := List.eq_nil_iff_forall_not_mem.mpr (fun q hq => hL q hq)
  subst this
  exact ⟨b1, b2, q2, w, fr⟩
theorem am_K_call {y : MethodName} {bytes cc : ByteArray} {ml : Nat} {ret : Option FieldType} {f lo : Nat} {as rest : List Value} {v : Option Value} {own : String} {k pc : Nat} {ls : Array Slot} (hM : am_K l s0 y bytes ml ret f lo H as v) (hx : p.tables.exec = Jvm.exec) (hb : c.code = cc) (hown : s.vm.findClass own = some m.cls)
    (hw : s0.WarmedH s.vm) (hlink : (Jvm.Cond.methodLink own k y).before args s = true) (hstat : (Jvm.Cond.static y).before args s = true) (hcw : am_w s0 (.code y bytes ml ret)) (hini : am_w s0 (.initialized y.cls)) (hy : y.cls ≠ "java/lang/invoke/MethodHandle" ∧ y.cls ≠ "java/lang/invoke/VarHandle")
    (hn : am_np y.desc = some as.length) (hls : ls.size = c.maxLocals) (hcat : (rest.map fun v => v.category).sum ≤ 8) (hRf : f + 1 ≤ R.frames) (hRl : 8 + (ml + 11) + lo ≤ R.locals) (hcells : cells ≤ R.cells) (hslots : slots ≤ R.slots) (hd : decode cc pc = .ok (.invokestatic k, 3))
    (kk : W p l e R s m args below meth c H locs cells slots Q (F0 m (pc + 3) ls (v.toList ++ rest))) : W p l e R s m args below meth c H locs cells slots Q (F0 m pc ls (as.reverse ++ rest)) := by
  intro T hT XX
  obtain ⟨mk, hnamed⟩ := Cond.code_named (hcw args s hw)
  obtain ⟨methM, cM, hmethM, hcM, -, hmlM, -, -, -, hsigM⟩ := Cond.code_spec hnamed (hcw args s hw)
  have hstatic : methM.isStatic = true := Cond.static_spec hnamed hmethM hstat
  obtain ⟨kP, hkP, -⟩ := className_of_methodNamed hnamed
  have hinitP : kP.init = .initialized := Cond.initialized_spec (findClass_of_methodNamed hnamed) hkP (hini args s hw)
  obtain ⟨vm1, X1, hst1⟩ := XX.invokestatic hx hown hlink hnamed hmethM hstatic hkP hinitP hy (g := F0 m pc ls (as.reverse ++ rest)) rfl (argsL := as) (rest := rest) (by rw [am_np_sig hn hsigM]) rfl (by rw [hb]; exact hd)
  have hwarm : s0.WarmedH (T.setVm vm1).vm := State.WarmedH.trans hw X1.warmed
  have hnU : (T.setVm vm1).methodNamed? y = some mk := X1.named hnamed
  obtain ⟨methY, cY, y1, y2, -, y4, -⟩ := Cond.code_spec hnU (hcw #[] _ hwarm)
  have hUh : (T.setVm vm1).heap = H := hT
  obtain ⟨oc, t, L, g', mk', hq, hL, X2, hsteps⟩ := am_back (mc := 0) (ms := 0) (Bad := fun _ => False) (a := as.toArray) hM X1 (g := F0 m pc ls rest) rfl hls (by rw [hb]; exact hd)
    (by show 2 * 0 + (rest.map fun v => v.category).sum ≤ 8; omega) hnU y1 y2 (hini _ _ hwarm) hRf (by rw [y4]; exact hRl)
    (atoms_intro (ws := [.code y bytes ml ret]) (fun w hw' => by rw [List.mem_singleton] at hw'; subst hw'; exact hcw _ _ hwarm)) hcells hslots
    (fun g' mk' => ⟨rfl, hwarm, hUh⟩) (fun g' mk' o2 t2 hq => ⟨hq.2.2.1, [], hq.2.2.2, fun q hq => by cases hq⟩)
  obtain ⟨rfl, hH, -, -⟩ := hq
  have hLn : L = [] := List.eq_nil_iff_forall_not_mem.mpr (fun q hq => hL q hq)
  subst hLn
  rw [List.append_nil] at X2
  obtain ⟨t2, a1, b1⟩ := kk (am_af (T.setVm vm1) t) hH X2
  refine ⟨t2, hst1 t2 fun acts => ?_, b1⟩
  rw [doInvoke_state]
  exact Steps.trans hsteps a1
end Walk
def am_yP : MethodName := ⟨"jdk/internal/util/Preconditions", "checkIndex", "(IILjava/util/function/BiFunction;)I"⟩
def am_yS : MethodName := ⟨"java/lang/String", "checkIndex", "(II)V"⟩
theorem am_kP {H : Heap} {k n : Int32} {fv : Value} (h0 : 0 ≤ k) (hk : k < n) (hf : fv.category = 1) : am_K l s0 am_yP prog_25_method_11_code 3 (some .int) 1 20 H [.int k, .int n, fv] (some (.int k)) := by
  refine am_K_of (by decide +kernel) ?_
  intro p e s m args below meth c hx hb hml hret hlocks hown hw hH
  have hsl : lg_sl [.int k, .int n, fv] = [.val (.int k), .val (.int n), .val fv] := by
    cases fv <;> first | rfl | (simp [Value.category] at hf)
  rw [hsl]
  refine lv_iload_n (i := 0) (x := k) hx hb (by decide +kernel : decode prog_25_method_11_code 0 = .ok (.iload_n 0, 1)) rfl rfl ?_
  refine lv_if_lt hx hb (by decide +kernel : decode prog_25_method_11_code 1 = .ok (.ifCond .lt 8, 3)) (tgt := 9) rfl (fun h => absurd h0 (by rw [Int32.not_le]; exact h)) (fun _ => ?_)
  refine lv_iload_n (i := 0) (x := k) hx hb (by decide +kernel : decode prog_25_method_11_code 4 = .ok (.iload_n 0, 1)) rfl rfl ?_
  refine lv_iload_n (i := 1) (x := n) hx hb (by decide +kernel : decode prog_25_method_11_code 5 = .ok (.iload_n 1, 1)) rfl rfl ?_
  refine lv_icmp_lt hx hb (by decide +kernel : decode prog_25_method_11_code 6 = .ok (.if_icmp .lt 10, 3)) (tgt := 16) rfl (fun _ => ?_) (fun h => absurd hk h)
  refine lv_iload_n (i := 0) (x := k) hx hb (by decide +kernel : decode prog_25_method_11_code 16 = .ok (.iload_n 0, 1)) rfl rfl ?_
  refine W.am_mono (am_KQ_of (args := args)) ?_
  exact W.zret hx hb hret rfl (fun t ht hW => ⟨rfl, ht, hW⟩) (fun q hq => by cases hq) (by decide +kernel : decode prog_25_method_11_code 17 = .ok (.ireturn, 1)) hlocks
abbrev am_Zs (X : am_X) (s0 : State) : Prop := va_Zq "jdk/internal/util/Preconditions" "SIOOBE_FORMATTER" "Ljava/util/function/BiFunction;" (fun q => X.2.1 ≤ q) s0 s0.heap
theorem am_kS {a0 : Array Value} {H : Heap} {k n : Int32} (hts : ∀ w ∈ lw_tbl, w.before a0 s0 = true) (hZ : am_Zs X s0) (hH0 : ∀ q : Nat, q < X.2.1 → H[q]? = s0.heap[q]?) (h0 : 0 ≤ k) (hk : k < n) : am_K l s0 am_yS prog_21_method_155_code 2 none 3 60 H [.int k, .int n] none := by
  refine am_K_of (by decide +kernel) ?_
  intro p e s m args below meth c hx hb hml hret hlocks hown hw hH
  have hZ1 : va_Zq "jdk/internal/util/Preconditions" "SIOOBE_FORMATTER" "Ljava/util/function/BiFunction;" (fun q => X.2.1 ≤ q) s H := (va_Zq.moved hw.alike hZ).kept (fun a _ hA => hH0 a (Nat.lt_of_not_le hA))
  have hgood : ∀ {w : Jvm.Cond} (i : Nat), lw_tbl[i]? = some w → goodWord w = true → w.before args s = true := fun i hi hg => am_w_of hts i hi hg args s hw
  have key : ∀ v : Value, v.category = 1 → va_Z "jdk/internal/util/Preconditions" "SIOOBE_FORMATTER" "Ljava/util/function/BiFunction;" v (fun q => X.2.1 ≤ q) s H →
      W p l e (am_Kr 3 60) s m args below meth c H [] 0 0 (am_KQ s below H none) (F0 m 0 (lg_sl [.int k, .int n] ++ List.replicate (2 - (lg_sl [.int k, .int n]).length) Slot.unset).toArray []) := by
    intro v hv hz
    obtain ⟨cf, kf, fi, f, a, cell, z1, z2, z3, z4, z5, z6, z7, -⟩ := hz
    refine lv_iload_n (i := 0) (x := k) hx hb (by decide +kernel : decode prog_21_method_155_code 0 = .ok (.iload_n 0, 1)) rfl rfl ?_
    refine lv_iload_n (i := 1) (x := n) hx hb (by decide +kernel : decode prog_21_method_155_code 1 = .ok (.iload_n 1, 1)) rfl rfl ?_
    refine W.gets hx hb hown (hgood 292 (by decide +kernel) rfl) z1 z2 z3 z4 z5 (fun e => by rw [e] at z6; cases z6) z7 rfl (by decide +kernel : decode prog_21_method_155_code 2 = .ok (.getstatic 1053, 3)) ?_
    refine am_K_call (as := [.int k, .int n, v]) (rest := []) (am_kP h0 hk hv) hx hb hown hw (hgood 294 (by decide +kernel) rfl) (hgood 295 (by decide +kernel) rfl) (am_w_of hts 296 (by decide +kernel) rfl) (am_w_of hts 59 (by decide +kernel) rfl) ⟨by decide +kernel, by decide +kernel⟩ (by show am_np am_yP.desc = some 3; decide +kernel) hml.symm (by decide) (by decide) (by decide) (by decide) (by decide) (by decide +kernel : decode prog_21_method_155_code 5 = .ok (.invokestatic 1059, 3)) ?_
    refine lv_pop hx hb (by decide +kernel : decode prog_21_method_155_code 8 = .ok (.pop, 1)) rfl ?_
    refine W.am_mono (am_KQ_of (args := args)) ?_
    exact W.vret hx hb hret (fun t ht hW => ⟨rfl, ht, hW⟩) (fun q hq => by cases hq) (by decide +kernel : decode prog_21_method_155_code 9 = .ok (.return_, 1)) hlocks
  rcases hZ1 with h | ⟨t, h⟩
  · exact key _ rfl h
  · exact key _ rfl h
/-- the words of these calls, by their places -/
def am_obI : List Nat := [78, 87, 327, 364, 374, 481, 757]
def am_maI : List Nat := [348, 571, 582, 605]
def am_maN (x : Nat) : MethodName := match x with
  | 0 => Lib.Math.max.name
  | 1 => Lib.Math.min.name
  | _ => Lib.Math.abs.name
set_option maxRecDepth 100000 in
theorem am_obA : am_obL.length = am_obI.length ∧ (am_obL.zip am_obI).all (fun z => decide (lw_tbl[z.2]? = some (.methodLink (am_ow z.1.1) z.1.2.1 Lib.objectInit))) = true := by decide +kernel
set_option maxRecDepth 100000 in
theorem am_maA : am_maL.length = am_maI.length ∧ (am_maL.zip am_maI).all (fun z => decide (lw_tbl[z.2]? = some (.methodLink (am_ow z.1.1) z.1.2.1 (am_maN z.1.2.2)))) = true := by decide +kernel
theorem am_zip_mem {α β : Type} {x : α} : ∀ {l : List α} {k : List β}, l.length = k.length → x ∈ l → ∃ y, (x, y) ∈ l.zip k
  | [], _, _, h => by cases h
  | _ :: _, [], e, _ => by cases e
  | a :: l, b :: k, e, h => by
    rcases List.mem_cons.mp h with rfl | h
    · exact ⟨b, List.mem_cons_self⟩
    · obtain ⟨y, hy⟩ := am_zip_mem (k := k) (by simpa using e) h
      exact ⟨y, List.mem_cons_of_mem _ hy⟩
theorem am_obW {ow k x : Nat} (h : am_s3 ow k am_obL = some x) : Jvm.Cond.methodLink (am_ow ow) k Lib.objectInit ∈ lw_tbl := by
  obtain ⟨y, hy⟩ := am_zip_mem am_obA.1 (am_s3_mem h)
  have q := List.all_eq_true.mp am_obA.2 _ hy
  rw [decide_eq_true_eq] at q
  exact List.mem_of_getElem? q
theorem am_maW {ow k x : Nat} (h : am_s3 ow k am_maL = some x) : Jvm.Cond.methodLink (am_ow ow) k (am_maN x) ∈ lw_tbl := by
  obtain ⟨y, hy⟩ := am_zip_mem am_maA.1 (am_s3_mem h)
  have q := List.all_eq_true.mp am_maA.2 _ hy
  rw [decide_eq_true_eq] at q
  exact List.mem_of_getElem? q
theorem am_ciA {ow k x : Nat} (h : am_s3 ow k am_ciL = some x) : ow = 5 ∧ k = 9 := by
  have := am_s3_mem h
  simp only [am_ciL, List.mem_singleton, Prod.mk.injEq] at this
  exact ⟨this.1, this.2.1⟩
set_option maxHeartbeats 1000000 in
theorem am_hs_ok {a0 : Array Value} (hts : ∀ w ∈ lw_tbl, w.before a0 s0 = true) (hZ : am_Zs X s0) : am_HS l X s0 := by
  intro mi pc len i i0 st r hd hck hspc p e R s m args below meth c H locs cells slots Q ls hx hb hown hLt ho hcells hslots hls hRf hRl kk
  have hw := hLt.1
  have hmem : ∀ {w : Jvm.Cond}, w ∈ lw_tbl → goodWord w = true → w.before args s = true := fun hm hg => word_at hw (good_of_word hg) (hts _ hm)
  have hgood : ∀ {w : Jvm.Cond} (i : Nat), lw_tbl[i]? = some w → goodWord w = true → w.before args s = true := fun i hi hg => am_w_of hts i hi hg args s hw
  unfold am_spc at hspc
  split at hspc
  · simp only [am_ck] at hck
    split at hck
    · rename_i k
      simp only [Bool.and_eq_true, decide_eq_true_eq] at hck
      obtain ⟨ho3, rfl⟩ := hck
      obtain ⟨x, hx3⟩ := Option.isSome_iff_exists.mp ho3
      split at hspc
      · rename_i a rest
        split at hspc
        · rename_i hc8
          cases hspc
          refine W.objInit hx hb hown (hmem (am_obW hx3) rfl) (hgood 79 (by decide +kernel) rfl) (hgood 80 (by decide +kernel) rfl) (g := F0 m pc ls ((Value.ref a :: r).map (am_v X))) rfl hls rfl hd (by omega) ?_ kk
          show 2 * 0 + ((r.map (am_v X)).map fun v => v.category).sum + 12 ≤ R.locals
          rw [am_v_cats]
          omega
        · cases hspc
      · cases hspc
    · cases hck
  · simp only [am_ck] at hck
    split at hck
    · rename_i k
      simp only [Bool.and_eq_true, decide_eq_true_eq] at hck
      obtain ⟨ho3, rfl⟩ := hck
      obtain ⟨x, hx3⟩ := Option.isSome_iff_exists.mp ho3
      obtain ⟨h5, rfl⟩ := am_ciA hx3
      split at hspc
      · rename_i n k rest
        split at hspc
        · rename_i hc8
          cases hspc
          rw [h5] at hown
          refine am_K_call (as := [.int k, .int n]) (rest := r.map (am_v X)) (am_kS hts hZ (fun q hq => by rw [ho q hq]; exact hLt.2 q hq) hc8.1 hc8.2.1) hx hb hown hw (hgood 289 (by decide +kernel) rfl) (hgood 290 (by decide +kernel) rfl) (am_w_of hts 291 (by decide +kernel) rfl) (am_w_of hts 57 (by decide +kernel) rfl) ⟨by decide +kernel, by decide +kernel⟩ (by show am_np am_yS.desc = some 2; decide +kernel) hls ?_ (by omega) (by omega) hcells hslots hd kk
          rw [am_v_cats]
          exact hc8.2.2
        · cases hspc
      · cases hspc
    · cases hck
  · simp only [am_ck] at hck
    split at hck
    · rename_i k
      simp only [Bool.and_eq_true, decide_eq_true_eq] at hck
      obtain ⟨ho3, rfl⟩ := hck
      split at hspc
      · rename_i y x rest
        split at hspc
        · rename_i hc8
          cases hspc
          refine va_mmax hx hb hls.symm hown (hmem (am_maW ho3) rfl) (hgood 349 (by decide +kernel) rfl) (hgood 64 (by decide +kernel) rfl) (hgood 350 (by decide +kernel) rfl) (by omega) ?_ hcells hslots hd kk
          rw [am_v_cats]
          omega
        · cases hspc
      · cases hspc
    · cases hck
  · simp only [am_ck] at hck
    split at hck
    · rename_i k
      simp only [Bool.and_eq_true, decide_eq_true_eq] at hck
      obtain ⟨ho3, rfl⟩ := hck
      split at hspc
      · rename_i y x rest
        split at hspc
        · rename_i hc8
          cases hspc
          refine va_mmin hx hb hls.symm hown (hmem (am_maW ho3) rfl) (hgood 572 (by decide +kernel) rfl) (hgood 64 (by decide +kernel) rfl) (hgood 573 (by decide +kernel) rfl) (by omega) ?_ hcells hslots hd kk
          rw [am_v_cats]
          omega
        · cases hspc
      · cases hspc
    · cases hck
  · simp only [am_ck] at hck
    split at hck
    · rename_i k
      simp only [Bool.and_eq_true, decide_eq_true_eq] at hck
      obtain ⟨ho3, rfl⟩ := hck
      split at hspc
      · rename_i x rest
        split at hspc
        · rename_i hc8
          cases hspc
          refine va_mabs hx hb hls.symm hown (hmem (am_maW ho3) rfl) (hgood 583 (by decide +kernel) rfl) (hgood 64 (by decide +kernel) rfl) (hgood 584 (by decide +kernel) rfl) (by omega) ?_ hcells hslots hd kk
          rw [am_v_cats]
          omega
        · cases hspc
      · cases hspc
    · cases hck
  · cases hspc
end AmSpec
end
section
/-! 'throw new X(message)': the four places. -/
def am_xn : List String := ["java/lang/RuntimeException", "java/lang/Exception"]
/-- words that the classes alone decide -/
def am_sof : Jvm.Cond → Bool
  | .castable .. => true
  | .declares _ => true
  | _ => false
def am_tB (mi pc x kc kl ic : Nat) (cls tx : String) : Bool :=
  decide (am_ow (am_mo mi) = "ToldShields") && decide (am_cn x = cls) && am_own x && decide (am_lay x = []) && decide (am_N x = 6) && Bundle.fit cls &&
  decide (decode (am_mb mi) pc = .ok (.new kc, 3)) && decide (decode (am_mb mi) (pc + 3) = .ok (.dup, 1)) && decide (decode (am_mb mi) (pc + 4) = .ok (.ldc kl, 2)) && decide (decode (am_mb mi) (pc + 6) = .ok (.invokespecial ic, 3)) && decide (decode (am_mb mi) (pc + 9) = .ok (.athrow, 1)) &&
  decide (Jvm.Cond.classLink "ToldShields" kc cls ∈ lw_tbl) && decide (Jvm.Cond.initialized cls ∈ lw_tbl) && decide (Jvm.Cond.stringRef "ToldShields" kl tx ∈ lw_tbl) && decide (Jvm.Cond.castable cls cls ∈ lw_tbl) &&
  (vx_atS "ToldShields" ic cls am_xn).all (fun w => (goodWord w || am_sof w) && decide (w ∈ lw_tbl))
def am_tS (z : Nat × Nat × Nat) : Bool := decide (z = (9, 9, 8)) || decide (z = (68, 10, 8)) || decide (z = (69, 19, 9)) || decide (z = (81, 14, 10))
def am_tC (mi : Nat) (z : Nat × Instr × Nat) : Bool := match z.2.1 with
  | .instanceof x => am_tS (mi, z.1, x)
  | _ => true
set_option maxRecDepth 100000 in
theorem am_tA : (List.range 150).all (fun mi => (am_cL mi).all (am_tC mi)) = true := by decide +kernel
set_option maxRecDepth 100000 in
theorem am_t0 : am_tB 9 9 8 109 111 113 "java/lang/IndexOutOfBoundsException" "there is no such shield" = true := by decide +kernel
set_option maxRecDepth 100000 in
theorem am_t1 : am_tB 68 10 8 109 114 113 "java/lang/IndexOutOfBoundsException" "there is no such cell" = true := by decide +kernel
set_option maxRecDepth 100000 in
theorem am_t2 : am_tB 69 19 9 116 118 120 "java/lang/IllegalStateException" "the shield was not read" = true := by decide +kernel
set_option maxRecDepth 100000 in
theorem am_t3 : am_tB 81 14 10 79 81 83 "java/lang/IllegalArgumentException" "there is nothing such to count" = true := by decide +kernel
theorem am_xfit : ∀ n ∈ am_xn, Bundle.fit n = true := by decide +kernel
theorem am_sof_at {a0 args : Array Value} {s0 U : State} {w : Jvm.Cond} (hs : am_sof w = true) (hW : s0.WarmedH U.vm) (h : w.before a0 s0 = true) : w.before args U = true := by
  have e2 : U.setVm U.vm = U := rfl
  cases w with
  | castable C D =>
    have e1 : (Jvm.Cond.castable C D).before args (U.setVm U.vm) = (Jvm.Cond.castable C D).before a0 (s0.setVm U.vm) := Cond.onTables_vm U.vm _ rfl
    rw [e2] at e1
    rw [e1, Cond.castable_setVm hW.alike]
    exact h
  | declares y =>
    have e1 : (Jvm.Cond.declares y).before args (U.setVm U.vm) = (Jvm.Cond.declares y).before a0 (s0.setVm U.vm) := Cond.onTables_vm U.vm _ rfl
    rw [e2] at e1
    rw [e1, Cond.declares_setVm hW.alike]
    exact h
  | _ => cases hs
theorem am_str_at {a0 args : Array Value} {s0 U : State} {C tx : String} {k : Nat} (hW : s0.WarmedH U.vm) (h : (Jvm.Cond.stringRef C k tx).before a0 s0 = true) : (Jvm.Cond.stringRef C k tx).before args U = true := by
  have h1 : (Jvm.Cond.stringRef C k tx).before #[] s0 = true := h
  have hcur : ∃ cur, s0.vm.findClass C = some cur := by
    simp only [Cond.before, Cond.holds, Cond.value] at h1
    cases hc : s0.vm.findClass C with
    | none => simp [hc] at h1
    | some cur => exact ⟨cur, rfl⟩
  obtain ⟨cur, hcur⟩ := hcur
  obtain ⟨-, -, -, a, -, -, -, -, -, hev⟩ := Cond.stringRef_spec hcur (show (Jvm.Cond.stringRef C k tx).holds #[] s0 none s0 [] = true from h1)
  have h2 : vk_R C k tx a s0 := ⟨h1, hev⟩
  exact (vk_R.warm hW h2).1
abbrev am_Zu (X : am_X) (s0 : State) : Prop := vx_Zq Bundle.tN "UNASSIGNED_STACK" Bundle.steD (fun q => X.2.1 ≤ q) s0 s0.heap ∧ vx_Zq Bundle.tN "SUPPRESSED_SENTINEL" Bundle.listD (fun q => X.2.1 ≤ q) s0 s0.heap
section AmHT
variable {l : Launch} {X : am_X} {s0 : State}
theorem am_ht1 {a0 : Array Value} {mi pc x kc kl ic : Nat} {cls tx : String} (hts : ∀ w ∈ lw_tbl, w.before a0 s0 = true) (hFx : ∀ s, am_Lt X s0 s → am_Fx X s) (hl : l.stackTraces = false) (hZ : am_Zu X s0) (hB : am_tB mi pc x kc kl ic cls tx = true)
    {p : Program} {e : Env} {R : Room} {s : State} {m : MethodId} {args : Array Value} {below : List Frame} {meth : Method} {c : Code} {T : State} {locs : List Loc} {cells slots : Nat} {ls : Array Slot}
    (hx : p.tables.exec = Jvm.exec) (hb : c.code = am_mb mi) (hown : s.vm.findClass (am_ow (am_mo mi)) = some m.cls) (hlocks : meth.locks = false) (hLt : am_Lt X s0 s) (ho : am_old X s T.heap) (hls : ls.size = c.maxLocals) (htl : c.exceptionTable.toList = []) (hRf : 10 ≤ R.frames) (hRl : 200 ≤ R.locals) (hc : cells + 1 ≤ R.cells) (hs : slots + am_N x ≤ R.slots) (XX : Stand p l e R s m args below meth c T locs cells slots) :
    am_own x = true ∧ am_lay x = [] ∧ ∃ U : State, Steps p.tables e below (T.setTop (F0 m pc ls [])) U ∧ U.status = .running ∧ Ended U below (.threw T.heap.size) ∧ s.WarmedH U.vm ∧ s.sameButNew ({ U with vm := s.vm } : State) locs (cells + 1) (slots + am_N x) ∧ U.heap.size = T.heap.size + 1 ∧ (∀ q : Nat, q < T.heap.size → U.heap[q]? = T.heap[q]?) ∧
      ∃ ce : Cell, U.heap[T.heap.size]? = some ce ∧ ce.cls = X.2.2.1 x ∧ ce.vm = .none := by
  unfold am_tB at hB
  simp only [Bool.and_eq_true, decide_eq_true_eq] at hB
  obtain ⟨⟨⟨⟨⟨⟨⟨⟨⟨⟨⟨⟨⟨⟨⟨b1, b2⟩, b3⟩, b4⟩, b5⟩, b6⟩, b7⟩, b8⟩, b9⟩, b10⟩, b11⟩, b12⟩, b13⟩, b14⟩, b15⟩, b16⟩ := hB
  refine ⟨b3, b4, ?_⟩
  rw [b5] at hs ⊢
  rw [b1] at hown
  have hwT : s0.WarmedH T.vm := State.WarmedH.trans hLt.1 XX.warmed
  have hwV : s0.WarmedH (T.setFrames (.invoking m args :: below)).vm := hwT
  have hmem : ∀ {w : Jvm.Cond}, w ∈ lw_tbl → goodWord w = true → w.before args (T.setFrames (.invoking m args :: below)) = true := fun hm hg => word_at hwV (good_of_word hg) (hts _ hm)
  have htr : e.platform.stackTraces = false := (show e.platform.stackTraces = l.stackTraces by rw [XX.admits.platform]).trans hl
  have hkp : ∀ a : Nat, a < s0.heap.size → ¬ X.2.1 ≤ a → T.heap[a]? = s0.heap[a]? := fun a _ hA => by rw [ho a (Nat.lt_of_not_le hA)]; exact hLt.2 a (Nat.lt_of_not_le hA)
  have hU : vx_Zq Bundle.tN "UNASSIGNED_STACK" Bundle.steD (fun q => X.2.1 ≤ q) (T.setFrames (.invoking m args :: below)) (T.setFrames (.invoking m args :: below)).heap := (vx_Zq.moved hwV.alike hZ.1).kept hkp
  have hN : vx_Zq Bundle.tN "SUPPRESSED_SENTINEL" Bundle.listD (fun q => X.2.1 ≤ q) (T.setFrames (.invoking m args :: below)) (T.setFrames (.invoking m args :: below)).heap := (vx_Zq.moved hwV.alike hZ.2).kept hkp
  have hat : ∀ a ∈ Bundle.ownAtoms "ToldShields" ic cls am_xn, a.before args (T.setFrames (.invoking m args :: below)) = true := by
    refine vx_own (fun w hw => ?_) (vx_isRefq hU.1) (vx_isRefq hN.1) hU.2.word hN.2.word
    have q := List.all_eq_true.mp b16 w hw
    simp only [Bool.or_eq_true, Bool.and_eq_true, decide_eq_true_eq] at q
    rcases q.1 with g | g
    · exact hmem q.2 g
    · exact am_sof_at g hwV (hts _ q.2)
  obtain ⟨U, u1, u2, u3, u4, u5, u6, u7, ce, u8, u9, u10⟩ := am_throwNew XX hx htr hlocks (own := "ToldShields") (cls := cls) (tx := tx) (names := am_xn) (kc := kc) (kl := kl) (ic := ic) (pc := pc) (ls := ls) hown b6 am_xfit hat (hmem b12 rfl) (hmem b13 rfl) (am_str_at hwV (hts _ b14)) hls htl
    (by rw [hb]; exact b7) (by rw [hb]; exact b8) (by rw [hb]; exact b9) (by rw [hb]; exact b10) (by rw [hb]; exact b11) (by show 2 + 3 < R.frames; omega) (by show 13 * (2 + 1) + 50 ≤ R.locals; omega) hc hs
  refine ⟨U, u1, u2, u3, u4, u5, u6, u7, ce, u8, ?_, u10⟩
  have h1 := ((hFx s hLt).2.1 x b3).1
  rw [b2] at h1
  rw [XX.warmed.alike.findClass] at u9
  exact Option.some.inj (u9.symm.trans h1)
theorem am_ht {a0 : Array Value} (hts : ∀ w ∈ lw_tbl, w.before a0 s0 = true) (hFx : ∀ s, am_Lt X s0 s → am_Fx X s) (hl : l.stackTraces = false) (hZ : am_Zu X s0) : am_HT l X s0 := by
  intro mi pc len x hc p e R s m args below meth c T locs cells slots ls hx hb hown hlocks hLt ho hsz hls htl hRf hRl hcc hss XX
  have hm : mi < 150 := by
    by_cases hm : mi < 150
    · exact hm
    · obtain ⟨k, rfl⟩ := Nat.exists_eq_add_of_le (Nat.not_lt.mp hm)
      have h2 := am_find_mem hc
      have h3 : am_cL (150 + k) = [] := by
        rw [Nat.add_comm]
        rfl
      rw [h3] at h2
      cases h2
  have q : am_tS (mi, pc, x) = true := List.all_eq_true.mp (List.all_eq_true.mp am_tA mi (List.mem_range.mpr hm)) _ (am_find_mem hc)
  simp only [am_tS, Bool.or_eq_true, decide_eq_true_eq, Prod.mk.injEq] at q
  rcases q with ((⟨rfl, rfl, rfl⟩ | ⟨rfl, rfl, rfl⟩) | ⟨rfl, rfl, rfl⟩) | ⟨rfl, rfl, rfl⟩
  · exact am_ht1 hts hFx hl hZ am_t0 hx hb hown hlocks hLt ho hls htl hRf hRl hcc hss XX
  · exact am_ht1 hts hFx hl hZ am_t1 hx hb hown hlocks hLt ho hls htl hRf hRl hcc hss XX
  · exact am_ht1 hts hFx hl hZ am_t2 hx hb hown hlocks hLt ho hls htl hRf hRl hcc hss XX
  · exact am_ht1 hts hFx hl hZ am_t3 hx hb hown hlocks hLt ho hls htl hRf hRl hcc hss XX
end AmHT
end
section
/-! The law's catch clauses: a search through the rows of the table, each row's class linked on the way. -/
section AmCatch
variable {l : Launch} {X : am_X} {s0 : State}
/-- one row that covers the place -/
theorem am_row {Q : Handler → Pre} {E : CtlPost} {e : Env} {d : Bool} {acts : List Action} {S : State} {f : JFrame} {a : Addr} {y : ExceptionTableEntry} {t : List ExceptionTableEntry} {c : ClassId} {cell : Cell} (hy : covers y f.pc = true) (h0 : y.catchType ≠ 0)
    (hl : S.vm.ClassLinks e.platform f.method.cls y.catchType c) (hcell : S.heap[a]? = some cell) (hobj : ∀ k, cell.vm ≠ .statics k) (hk : ∃ k, S.vm.classes[cell.cls]? = some k) (hc : ∃ k, S.vm.classes[c]? = some k) :
    wp (findHandler.go f a (y :: t)) Q E e d acts S ↔ if S.vm.assignable cell.cls c = true then Q (.found y.handlerPc) d acts (S.setVm (S.vm.noted f.method.cls y.catchType (.cls c))) else wp (findHandler.go f a t) Q E e d acts (S.setVm (S.vm.noted f.method.cls y.catchType (.cls c))) := by
  have hal : S.vm.Alike (S.vm.noted f.method.cls y.catchType (.cls c)) := (Vm.Alike.refl S.vm).noted _ _ _
  obtain ⟨k1, hk1⟩ := hk
  obtain ⟨k2, hk2⟩ := hc
  obtain ⟨j1, hj1, -⟩ := hal.2.2 _ _ hk1
  obtain ⟨j2, hj2, -⟩ := hal.2.2 _ _ hk2
  obtain ⟨ha, ht⟩ := (resolveClass_links e.toSetting hl).op (op := VmOp.resolveClass f.method.cls y.catchType) rfl
  have has : (S.vm.noted f.method.cls y.catchType (.cls c)).assignable cell.cls c = S.vm.assignable cell.cls c := by rw [hal.assignable]
  simp only [covers] at hy
  cases hfit : S.vm.assignable cell.cls c <;> rw [hfit] at has <;>
    simp [findHandler.go, hy, h0, ha, ht, hcell, hobj, hj1, hj2, has, VmOp.dirties, VmOp.acts]
/-- the kinds of things that the law catches -/
def am_x3 (x : Nat) : Prop := x = 8 ∨ x = 9 ∨ x = 10
theorem am_seek {e : Env} {s : State} {f : JFrame} {a : Addr} {cell : Cell} {x pc' : Nat} (hobj : ∀ k, cell.vm ≠ .statics k) (hk0 : ∃ k, s.vm.classes[cell.cls]? = some k) (hx3 : am_x3 x)
    (hlk : ∀ k, k = 13 ∨ k = 19 ∨ k = 40 → ∃ c, s.vm.ClassLinks e.platform f.method.cls k c ∧ (am_ct k = x → s.vm.assignable cell.cls c = true) ∧ (am_ct k ≠ x → s.vm.assignable cell.cls c = false)) :
    ∀ (tab : List ExceptionTableEntry) (S : State), (∀ y ∈ tab, y.catchType = 13 ∨ y.catchType = 19 ∨ y.catchType = 40) → am_hf f.pc x (tab.map (fun h => (h.startPc, h.endPc, h.handlerPc, h.catchType))) = some pc' → s.WarmedH S.vm → S.heap[a]? = some cell →
    ∃ vm' : Vm, s.WarmedH vm' ∧ ∀ (Q : Handler → Pre) (E : CtlPost) (d : Bool) (acts : List Action), wp (findHandler.go f a tab) Q E e d acts S ↔ Q (.found pc') d acts (S.setVm vm') := by
  intro tab
  induction tab with
  | nil => intro S _ h; cases h
  | cons y t ih =>
    intro S hty h hW hcell
    have hty' : ∀ z ∈ t, z.catchType = 13 ∨ z.catchType = 19 ∨ z.catchType = 40 := fun z hz => hty z (List.mem_cons_of_mem _ hz)
    have hyk := hty y List.mem_cons_self
    by_cases hcov : covers y f.pc = true
    · obtain ⟨c, hcl, h1, h2⟩ := hlk y.catchType hyk
      obtain ⟨dk, _, _, kt, hd, _, _, _, _, hkt, _, hfree⟩ := hcl.here
      obtain ⟨k0, hk0⟩ := hk0
      obtain ⟨k0', hk0', -⟩ := hW.alike.2.2 _ _ hk0
      obtain ⟨kt', hkt', -⟩ := hW.alike.2.2 _ _ hkt
      have hW' : s.WarmedH (S.vm.noted f.method.cls y.catchType (.cls c)) := hW.noted hd hfree (State.rightAt_cls hcl)
      have hrow := fun (Q : Handler → Pre) (E : CtlPost) (d : Bool) (acts : List Action) => am_row (Q := Q) (E := E) (d := d) (acts := acts) (t := t) hcov (by omega) (hW.classLinks hcl) hcell hobj ⟨k0', hk0'⟩ ⟨kt', hkt'⟩
      have hcov' : y.startPc ≤ f.pc ∧ f.pc < y.endPc := by simpa [covers] using hcov
      by_cases hct : am_ct y.catchType = x
      · simp only [List.map_cons, am_hf] at h
        rw [if_pos ⟨hcov'.1, hcov'.2, hct⟩] at h
        cases h
        refine ⟨_, hW', fun Q E d acts => ?_⟩
        rw [hrow Q E d acts, if_pos (by rw [hW.alike.assignable]; exact h1 hct)]
      · simp only [List.map_cons, am_hf] at h
        rw [if_neg (fun q => hct q.2.2)] at h
        obtain ⟨vm', hv, hq⟩ := ih (S.setVm (S.vm.noted f.method.cls y.catchType (.cls c))) hty' h hW' hcell
        refine ⟨vm', hv, fun Q E d acts => ?_⟩
        rw [hrow Q E d acts, if_neg (by rw [hW.alike.assignable, h2 hct]; decide)]
        exact hq Q E d acts
    · have hcov' : ¬ (y.startPc ≤ f.pc ∧ f.pc < y.endPc) := by simpa [covers] using hcov
      simp only [List.map_cons, am_hf] at h
      rw [if_neg (fun q => hcov' ⟨q.1, q.2.1⟩)] at h
      obtain ⟨vm', hv, hq⟩ := ih S hty' h hW hcell
      refine ⟨vm', hv, fun Q E d acts => ?_⟩
      rw [W.findHandler_go_skip (by simpa using hcov)]
      exact hq Q E d acts
/-- a search that ends at a handler, the tables warmer -/
theorem am_land {tb : Tables} {e : Env} {s target : State} {g : JFrame} {c : Code} {below : List Frame} {a : Addr} {pc : Nat} {vm' : Vm} (h : At s g.method c below)
    (hfind : ∀ (Q : Handler → Pre) (E : CtlPost) (d : Bool) (acts : List Action), wp (findHandler g a) Q E e d acts ((s.setTop g).pushFrame (.throwing a)) ↔ Q (.found pc) d acts (((s.setTop g).pushFrame (.throwing a)).setVm vm'))
    (hrest : Steps tb e below ((s.setVm vm').setTop { g with pc := pc, stack := [.ref a] }) target) : Steps tb e below ((s.setTop g).pushFrame (.throwing a)) target := by
  obtain ⟨hgo, hw⟩ := h.throwing a
  refine Steps.head hgo hw ?_
  have hstep : ∀ r, (stepThrowing e ((s.setTop g).pushFrame (.throwing a)) a (.java g :: r)).Is ((((s.setTop g).pushFrame (.throwing a)).setVm vm').setFrames (.java { g with pc := pc, stack := [.ref a] } :: r)) [] := by
    intro r
    simp only [stepThrowing, searchFrame, vmDo]
    generalize hr : Sem.go _ e false [] ((s.setTop g).pushFrame (.throwing a)) = res
    obtain ⟨as, rfl, ha⟩ := Sem.eq_ok_of hr (a := Handler.found pc) (s' := ((s.setTop g).pushFrame (.throwing a)).setVm vm') (acts' := []) (by simp [hfind _ _ _ _])
    exact ⟨rfl, ha⟩
  rw [stepThread_throwing (frames_entered h.top _), (hstep _).1]
  obtain ⟨g0, hg⟩ := Option.isSome_iff_exists.mp h.top
  obtain ⟨r, hr⟩ := State.topJava?_eq_some.mp hg
  have hr' : (s.setVm vm').frames = .java g0 :: r := hr
  rw [State.setTop_of_frames _ hr'] at hrest
  have key : ∀ (u : State) (F G : List Frame), ((u.setFrames F).setVm vm').setFrames G = (u.setVm vm').setFrames G := by
    intro u F G
    have q : (u.setFrames F).setVm vm' = (u.setVm vm').setFrames F := rfl
    rw [q, State.setFrames_setFrames]
  rw [hr, List.tail_cons, State.pushFrame, key, State.setTop_of_frames _ hr, key]
  exact hrest
set_option maxRecDepth 100000 in
theorem am_hsA : (List.range 150).all (fun mi => (am_hs mi).all (fun z => decide (z.2.2.2 = 13 ∨ z.2.2.2 = 19 ∨ z.2.2.2 = 40) && decide (am_ow (am_mo mi) = "ToldShieldsLaw"))) = true := by decide +kernel
theorem am_hs_out {mi : Nat} (h : ¬ mi < 150) : am_hs mi = [] := by
  obtain ⟨k, rfl⟩ := Nat.exists_eq_add_of_le (Nat.not_lt.mp h)
  rw [Nat.add_comm]
  rfl
theorem am_hf_x {pc x pc' : Nat} : ∀ {hs : List (Nat × Nat × Nat × Nat)}, am_hf pc x hs = some pc' → am_x3 x
  | [], h => by cases h
  | (a, b, t, k) :: r, h => by
    simp only [am_hf] at h
    split at h
    · rename_i hc
      obtain ⟨-, -, rfl⟩ := hc
      unfold am_ct am_x3
      split <;> simp
    · exact am_hf_x h
/-- that none of the three is another -/
def am_Nx (s0 : State) : Prop := ∀ x y : Nat, am_x3 x → am_x3 y → x ≠ y → va_Nc (am_cn x) (am_cn y) s0
theorem am_hh {a0 : Array Value} (hts : ∀ w ∈ lw_tbl, w.before a0 s0 = true) (hN : am_Nx s0) : am_HH l X s0 := by
  intro mi pc x pc' hh p e R s m args below meth c T locs cells slots ls st a cell hown hLt htab hcell hobj hcls XX
  have hx3 := am_hf_x hh
  have hm : mi < 150 := by
    by_cases hm : mi < 150
    · exact hm
    · unfold am_hnd at hh
      rw [am_hs_out hm] at hh
      cases hh
  have hall := List.all_eq_true.mp am_hsA mi (List.mem_range.mpr hm)
  have howL : am_ow (am_mo mi) = "ToldShieldsLaw" := by
    unfold am_hnd at hh
    cases hz : am_hs mi with
    | nil => rw [hz] at hh; cases hh
    | cons z r =>
      rw [hz] at hall
      have q := List.all_eq_true.mp hall z List.mem_cons_self
      simp only [Bool.and_eq_true, decide_eq_true_eq] at q
      exact q.2
  rw [howL] at hown
  have hty : ∀ y ∈ c.exceptionTable.toList, y.catchType = 13 ∨ y.catchType = 19 ∨ y.catchType = 40 := by
    intro y hy
    have hz : (y.startPc, y.endPc, y.handlerPc, y.catchType) ∈ am_hs mi := by
      rw [← htab]
      exact List.mem_map.mpr ⟨y, hy, rfl⟩
    have q := List.all_eq_true.mp hall _ hz
    simp only [Bool.and_eq_true, decide_eq_true_eq] at q
    exact q.1
  have hpl : e.platform.magicAccessors = ({} : Platform).magicAccessors := by rw [XX.admits.platform]
  have hgood : ∀ {w : Jvm.Cond} (i : Nat), lw_tbl[i]? = some w → goodWord w = true → w.before args s = true := fun i hi hg => am_w_of hts i hi hg args s hLt.1
  have hlk : ∀ k, k = 13 ∨ k = 19 ∨ k = 40 → ∃ c, s.vm.ClassLinks e.platform m.cls k c ∧ (am_ct k = x → s.vm.assignable cell.cls c = true) ∧ (am_ct k ≠ x → s.vm.assignable cell.cls c = false) := by
    intro k hk
    have hw : (Jvm.Cond.classLink "ToldShieldsLaw" k (am_cn (am_ct k))).before args s = true := by
      rcases hk with rfl | rfl | rfl
      · exact hgood 175 (by decide +kernel) rfl
      · exact hgood 619 (by decide +kernel) rfl
      · exact hgood 687 (by decide +kernel) rfl
    obtain ⟨c5, hc5, hcl5⟩ := Cond.classLink_spec hown hw e.platform hpl
    refine ⟨c5, hcl5, fun hq => ?_, fun hq => ?_⟩
    · rw [hq] at hc5
      cases hcls.symm.trans hc5
      exact va_asg _ _
    · have hk3 : am_x3 (am_ct k) := by
        rcases hk with rfl | rfl | rfl
        · exact Or.inl rfl
        · exact Or.inr (Or.inl rfl)
        · exact Or.inr (Or.inr rfl)
      obtain ⟨a8, b8, h1, h2, h3⟩ := va_Nc.moved hLt.1.alike (hN x (am_ct k) hx3 hk3 (fun q => hq q.symm))
      cases h1.symm.trans hcls
      cases h2.symm.trans hc5
      exact h3
  obtain ⟨k9, h9, -⟩ := Vm.findClass_spec hcls
  have hheap : ((T.setTop (F0 m pc ls st)).pushFrame (.throwing a)).heap[a]? = some cell := by rw [Stand.throwing_heap]; exact hcell
  have hvm : ((T.setTop (F0 m pc ls st)).pushFrame (.throwing a)).vm = T.vm := Stand.throwing_vm _ _ _
  obtain ⟨vm', hv, hq⟩ := am_seek (e := e) (s := s) (f := F0 m pc ls st) (a := a) (cell := cell) (x := x) (pc' := pc') (VmData.ne_statics_of hobj) ⟨k9, h9⟩ hx3 hlk c.exceptionTable.toList ((T.setTop (F0 m pc ls st)).pushFrame (.throwing a)) hty (by rw [htab]; exact hh) (by rw [hvm]; exact XX.warmed) hheap
  refine ⟨vm', XX.noted hv, fun target hrest => ?_⟩
  refine am_land (g := F0 m pc ls st) (pc := pc') (vm' := vm') XX.here (fun Q E d acts => ?_) hrest
  rw [W.findHandler_eq (meth := meth) (code := c) (by rw [hvm]; exact XX.method') XX.code]
  exact hq Q E d acts
end AmCatch
end
section
/-! Where the words and the facts of the start stand (printed by wip/whole/gen4.py). -/
def am_wnL : List String := ["OR", "ARGENT", "GULES", "AZURE", "VERT", "SABLE", "PURPURE", "ERMINE", "VAIR", "COUNTERCHANGE", "PER", "QUARTERLY", "AND", "OPEN", "CLOSE", "CHARGED", "WITH", "CHIEF", "FESS", "PALE", "BEND", "CROSS", "SALTIRE", "CHEVRON", "BORDURE", "A", "TWO", "THREE", "FOUR", "FIVE", "SIX", "ROUNDEL", "BILLET", "LOZENGE", "ROUNDELS", "BILLETS", "LOZENGES", "UNKNOWN"]
def am_wsL : List Nat := [167, 170, 173, 176, 179, 182, 185, 188, 191, 194, 197, 203, 206, 209, 212, 215, 218, 221, 224, 227, 230, 233, 236, 239, 242, 245, 248, 251, 254, 257, 260, 263, 266, 269, 272, 275, 278, 281]
/-- how the Statement names the cells that stand at the start -/
def am_tm (k : Nat) : Jvm.Term :=
  if k < 38 then .static "ToldShields$Word" (am_wnL.getD k "") "LToldShields$Word;"
  else if k = 38 then .static "ToldShields" "WORDS" "[LToldShields$Word;"
  else if k = 39 then .static "ToldShields$1" "$SwitchMap$ToldShields$Word" "[I"
  else if k < 78 then .string "ToldShields$Word" (am_wsL.getD (k - 40) 0)
  else .field (.string "ToldShields$Word" (am_wsL.getD (k - 78) 0)) "java/lang/String" "value" "[B"
def am_vt (v : Value) : Jvm.Term := match v with
  | .int x => .int x
  | .ref a => am_tm a
  | _ => .int 0
def am_fd (f : Nat) : String × String × String := am_fdL.getD f ("", "", "")
def am_eqs (a b : Jvm.Term) : List Jvm.Cond := if a = b then [] else [.eq a b]
/-- what is asked of a cell of the start -/
def am_nd (k : Nat) (c : am_C) : List Jvm.Cond := match c with
  | .inl (ci, fs) => .exactly (am_tm k) (am_cn ci) :: ((am_lay ci).zip fs).flatMap (fun z => am_eqs (.field (am_tm k) (am_fd z.1).1 (am_fd z.1).2.1 (am_fd z.1).2.2) (am_vt z.2))
  | .inr (t, xs) => .arrayOf (am_tm k) (am_ty t) :: .eq (.length (am_tm k)) (.int (Int32.ofNat xs.length)) :: xs.zipIdx.map (fun z => .eq (.elem (am_tm k) (.int (Int32.ofNat z.2))) (am_vt z.1))
def am_niL : List (List Nat) := [[163, 165, 166, 167, 164],
  [168, 170, 171, 172, 169],
  [173, 175, 176, 177, 174],
  [178, 180, 181, 182, 179],
  [183, 185, 186, 187, 184],
  [188, 190, 191, 192, 189],
  [193, 195, 196, 197, 194],
  [198, 200, 201, 202, 199],
  [203, 205, 206, 207, 204],
  [102, 104, 105, 106, 103],
  [62, 64, 65, 66, 63],
  [57, 59, 60, 61, 58],
  [92, 94, 95, 96, 93],
  [82, 84, 85, 86, 83],
  [87, 89, 90, 91, 88],
  [112, 114, 115, 116, 113],
  [117, 119, 120, 121, 118],
  [107, 109, 110, 111, 108],
  [72, 74, 75, 76, 73],
  [67, 69, 70, 71, 68],
  [77, 79, 80, 81, 78],
  [208, 210, 211, 212, 209],
  [213, 215, 216, 217, 214],
  [218, 220, 221, 222, 219],
  [223, 225, 226, 227, 224],
  [97, 99, 100, 101, 98],
  [228, 230, 231, 232, 229],
  [233, 235, 236, 237, 234],
  [238, 240, 241, 242, 239],
  [243, 245, 246, 247, 244],
  [248, 250, 251, 252, 249],
  [253, 255, 256, 257, 254],
  [258, 260, 261, 262, 259],
  [263, 265, 266, 267, 264],
  [268, 270, 271, 272, 269],
  [273, 275, 276, 277, 274],
  [278, 280, 281, 282, 279],
  [52, 54, 55, 56, 53],
  [6, 7, 9, 10, 11, 12, 13, 14, 15, 16, 17, 18, 19, 20, 21, 22, 23, 24, 25, 26, 27, 28, 29, 30, 31, 32, 33, 34, 35, 36, 37, 38, 39, 40, 41, 42, 43, 44, 45, 46],
  [123, 124, 125, 126, 127, 128, 129, 130, 131, 132, 133, 134, 135, 136, 137, 138, 139, 140, 141, 142, 143, 144, 145, 146, 147, 148, 149, 150, 151, 152, 153, 154, 155, 156, 157, 158, 159, 160, 161, 162],
  [545, 546],
  [551, 552],
  [561, 562],
  [570, 571],
  [579, 580],
  [587, 588],
  [596, 597],
  [607, 608],
  [617, 618],
  [499, 500],
  [446, 447],
  [433, 434],
  [487, 488],
  [477, 478],
  [482, 483],
  [526, 527],
  [537, 538],
  [517, 518],
  [461, 462],
  [453, 454],
  [469, 470],
  [625, 626],
  [634, 635],
  [645, 646],
  [656, 657],
  [494, 495],
  [667, 668],
  [674, 675],
  [683, 684],
  [691, 692],
  [699, 700],
  [706, 707],
  [717, 718],
  [727, 728],
  [738, 739],
  [750, 751],
  [761, 762],
  [429, 430],
  [547, 548, 549, 550],
  [553, 554, 555, 556, 557, 558, 559, 560],
  [563, 564, 565, 566, 567, 568, 569],
  [572, 573, 574, 575, 576, 577, 578],
  [581, 582, 583, 584, 585, 586],
  [589, 590, 591, 592, 593, 594, 595],
  [598, 599, 600, 601, 602, 603, 604, 605, 606],
  [609, 610, 611, 612, 613, 614, 615, 616],
  [619, 620, 621, 622, 623, 624],
  [501, 502, 503, 504, 505, 506, 507, 508, 509, 510, 511, 512, 513, 514, 515, 516],
  [448, 449, 450, 451, 452],
  [435, 436, 437, 438, 439, 440, 441, 442, 443, 444, 445],
  [489, 490, 491, 492, 493],
  [479, 480, 481],
  [484, 485, 486],
  [528, 529, 530, 531, 532, 533, 534, 535, 536],
  [539, 540, 541, 542, 543, 544],
  [519, 520, 521, 522, 523, 524, 525],
  [463, 464, 465, 466, 467, 468],
  [455, 456, 457, 458, 459, 460],
  [471, 472, 473, 474, 475, 476],
  [627, 628, 629, 630, 631, 632, 633],
  [636, 637, 638, 639, 640, 641, 642, 643, 644],
  [647, 648, 649, 650, 651, 652, 653, 654, 655],
  [658, 659, 660, 661, 662, 663, 664, 665, 666],
  [496, 497, 498],
  [669, 670, 671, 672, 673],
  [676, 677, 678, 679, 680, 681, 682],
  [685, 686, 687, 688, 689, 690],
  [693, 694, 695, 696, 697, 698],
  [701, 702, 703, 704, 705],
  [708, 709, 710, 711, 712, 713, 714, 715, 716],
  [719, 720, 721, 722, 723, 724, 725, 726],
  [729, 730, 731, 732, 733, 734, 735, 736, 737],
  [740, 741, 742, 743, 744, 745, 746, 747, 748, 749],
  [752, 753, 754, 755, 756, 757, 758, 759, 760],
  [763, 764, 765, 766, 767, 768, 769, 770, 771, 772],
  [431, 432]]
def am_nok (k : Nat) (c : am_C) : Bool := decide ((am_niL.getD k []).map (fun i => (flatC narrow_1)[i]?) = (am_nd k c).map some)
/-- the fields of the classes whose objects are made -/
def am_lyI : List (List Nat) := [[143, 145, 147, 149, 151, 153], [114, 116, 118, 120, 122, 124, 126, 128, 130, 132], [826, 828, 830, 832, 834, 836, 838, 840, 842, 844, 846, 848, 850, 852, 854, 856, 858, 860, 862, 864, 866, 868, 870, 872, 874, 876, 878, 880], [331, 333], [366], [382, 384, 386, 388, 390], [489, 491, 493, 495], [514, 516]]
def am_inI : List Nat := [74, 83, 753, 323, 360, 370, 474, 507, 185, 634, 693]
def am_icI : List Nat := [50, 51, 52, 63, 65, 66, 68, 69, 56, 71, 72]
/-- links of fields: named class, nest host, place of the word, place of 'the same field' -/
def am_flW : List (String × String × Nat × Nat) := [("ToldShields$Told", "", 90, 0), ("ToldShields$Told", "", 91, 0), ("ToldShields$Told", "", 92, 0), ("ToldShields$Told", "", 93, 0), ("ToldShields$Told", "", 94, 0), ("ToldShields$Told", "", 95, 0), ("ToldShields$Told", "", 96, 0), ("ToldShields$Told", "", 97, 0), ("ToldShields$Told", "", 98, 0), ("ToldShields$Told", "", 99, 0), ("ToldShields$Told", "", 100, 0), ("ToldShields$Told", "", 101, 0), ("ToldShields$Told", "", 102, 0), ("ToldShields$Told", "", 103, 0), ("ToldShields$Told", "", 104, 0), ("ToldShields$Told", "", 105, 0), ("ToldShields$Told", "", 106, 0), ("ToldShields$Told", "", 107, 0), ("ToldShields$Told", "", 108, 0), ("ToldShields$Told", "", 109, 0), ("ToldShields$Told", "", 110, 0), ("ToldShields$Told", "", 111, 0), ("ToldShields$Told", "", 112, 0), ("ToldShields$Told", "", 113, 0), ("ToldShields", "", 137, 0), ("ToldShields", "", 138, 0), ("ToldShields", "", 139, 0), ("ToldShields", "", 140, 0), ("ToldShields", "", 141, 0), ("ToldShields", "", 142, 0), ("ToldShields$Reader", "", 328, 0), ("ToldShields$Reader", "", 329, 0), ("ToldShields$Reader", "", 330, 0), ("ToldShields$Plain", "", 365, 0), ("ToldShields$Shield", "", 377, 0), ("ToldShields$Shield", "", 378, 0), ("ToldShields$Shield", "", 379, 0), ("ToldShields$Shield", "", 380, 0), ("ToldShields$Shield", "", 381, 0), ("ToldShields$Charges", "", 482, 0), ("ToldShields$Charges", "", 483, 0), ("ToldShields$Charges", "", 484, 0), ("ToldShields$Layer", "", 485, 0), ("ToldShields$Layer", "", 486, 0), ("ToldShields$Ordinary", "", 487, 488), ("ToldShields$Ordinary", "", 512, 0), ("ToldShields$Ordinary", "ToldShields", 513, 0), ("ToldShieldsModel", "", 798, 0), ("ToldShieldsModel", "", 799, 0), ("ToldShieldsModel", "", 800, 0), ("ToldShieldsModel", "", 801, 0), ("ToldShieldsModel", "", 802, 0), ("ToldShieldsModel", "", 803, 0), ("ToldShieldsModel", "", 804, 0), ("ToldShieldsModel", "", 805, 0), ("ToldShieldsModel", "", 806, 0), ("ToldShieldsModel", "", 807, 0), ("ToldShieldsModel", "", 808, 0), ("ToldShieldsModel", "", 809, 0), ("ToldShieldsModel", "", 810, 0), ("ToldShieldsModel", "", 811, 0), ("ToldShieldsModel", "", 812, 0), ("ToldShieldsModel", "", 813, 0), ("ToldShieldsModel", "", 814, 0), ("ToldShieldsModel", "", 815, 0), ("ToldShieldsModel", "", 816, 0), ("ToldShieldsModel", "", 817, 0), ("ToldShieldsModel", "", 818, 0), ("ToldShieldsModel", "", 819, 0), ("ToldShieldsModel", "", 820, 0), ("ToldShieldsModel", "", 821, 0), ("ToldShieldsModel", "", 822, 0), ("ToldShieldsModel", "", 823, 0), ("ToldShieldsModel", "", 824, 0), ("ToldShieldsModel", "", 825, 0), ("ToldShields$Word", "", 1094, 0), ("java/lang/String", "", 1095, 0), ("java/lang/String", "", 1096, 0), ("ToldShields$Word", "", 1097, 0), ("ToldShields$Word", "", 1098, 0), ("java/lang/Enum", "", 1099, 0), ("ToldShields$Word", "", 1100, 0), ("ToldShields$Word", "", 1101, 0), ("ToldShields$Word", "", 1102, 0)]
/-- static fields: class, name, descriptor, nest host, places of link, of its lying there, of the class's being initialised -/
def am_glW : List (String × String × String × String × Nat × Nat × Nat) := [("ToldShields", "WORDS", "[LToldShields$Word;", "ToldShields", 262, 263, 50), ("java/lang/String", "COMPACT_STRINGS", "Z", "", 276, 277, 57), ("ToldShields$Word", "UNKNOWN", "LToldShields$Word;", "", 316, 317, 62), ("ToldShields$Word", "QUARTERLY", "LToldShields$Word;", "", 397, 398, 62), ("ToldShields$Word", "PER", "LToldShields$Word;", "", 403, 404, 62), ("ToldShields$Word", "PALE", "LToldShields$Word;", "", 409, 410, 62), ("ToldShields$Word", "FESS", "LToldShields$Word;", "", 411, 412, 62), ("ToldShields$Word", "BEND", "LToldShields$Word;", "", 413, 414, 62), ("ToldShields$Word", "OPEN", "LToldShields$Word;", "", 419, 420, 62), ("ToldShields$Word", "CLOSE", "LToldShields$Word;", "", 421, 422, 62), ("ToldShields$Word", "AND", "LToldShields$Word;", "", 423, 424, 62), ("ToldShields$Word", "A", "LToldShields$Word;", "", 429, 430, 62), ("ToldShields$Word", "COUNTERCHANGE", "LToldShields$Word;", "", 459, 460, 62), ("ToldShields$Word", "CHIEF", "LToldShields$Word;", "", 522, 523, 62), ("ToldShields$Word", "CHARGED", "LToldShields$Word;", "", 524, 525, 62), ("ToldShields$Word", "WITH", "LToldShields$Word;", "", 526, 527, 62), ("ToldShields$Word", "BEND", "LToldShields$Word;", "", 552, 414, 62), ("ToldShields$Word", "FESS", "LToldShields$Word;", "", 553, 412, 62), ("ToldShields$Word", "PALE", "LToldShields$Word;", "", 554, 410, 62), ("ToldShields$Word", "CHIEF", "LToldShields$Word;", "", 561, 523, 62), ("ToldShields$Word", "PALE", "LToldShields$Word;", "", 570, 410, 62), ("ToldShields$1", "$SwitchMap$ToldShields$Word", "[I", "", 585, 586, 70), ("ToldShields$Word", "FESS", "LToldShields$Word;", "", 593, 412, 62), ("ToldShields$1", "$SwitchMap$ToldShields$Word", "[I", "", 597, 586, 70), ("ToldShields", "WORDS", "[LToldShields$Word;", "ToldShields", 738, 263, 50)]
def am_nlW : List Nat := [73, 81, 184, 322, 359, 369, 473, 506, 633, 692, 752]
def am_alW : List (Nat × Nat) := [(81, 82), (88, 89), (375, 376)]
def am_lcW : List Nat := [758, 763, 764, 765, 766, 767, 768, 769, 770, 771, 772, 773, 774, 775, 776, 777, 778, 779, 780, 781, 782, 783, 784, 785, 786, 787, 788, 789, 790, 791, 792, 793, 794, 795, 796, 797, 915]
end
section
/-! What the Statement says of the start, in the small machine's words: am_Fx at every later state. -/
set_option maxRecDepth 100000 in
theorem am_noA : am_stat.zipIdx.all (fun z => am_nok z.2 z.1) = true := by decide +kernel
def am_vok (v : Value) : Bool := match v with
  | .int _ => true
  | .ref a => decide (a < 116)
  | _ => false
def am_cok (c : am_C) : Bool := match c with
  | .inl (ci, fs) => fs.all am_vok && decide (0 < (am_lay ci).length) && decide (0 < fs.length)
  | .inr (_, xs) => xs.all am_vok && decide (xs.length < 1000)
set_option maxRecDepth 100000 in
theorem am_cokA : am_stat.all am_cok = true := by decide +kernel
theorem am_stat116 : am_stat.length = 116 := by decide +kernel
section AmStart
variable {a0 : Array Value} {s0 : State} {b : Nat} {xs : List Int32}
def am_ad (a0 : Array Value) (s0 : State) (k : Nat) : Nat := match (am_tm k).eval a0 s0 none [] s0 with
  | some (.ref a) => a
  | _ => 0
def am_fcl (s0 : State) (C : String) : ClassId := (s0.vm.findClass C).getD 0
def am_so (s0 : State) (f : Nat) : Nat := match s0.fieldFound? (am_fd f).1 (am_fd f).2.1 (am_fd f).2.2 with
  | some (_, _, _, fd) => fd.slot
  | none => 0
def am_X0 (a0 : Array Value) (s0 : State) (b : Nat) (xs : List Int32) : am_X := (am_ad a0 s0, s0.heap.size, fun ci => am_fcl s0 (am_cn ci), am_so s0, fun t => am_fcl s0 ("[" ++ (am_ty t).toString), b, xs)
theorem am_nd_ok (hn : ∀ w ∈ flatC narrow_1, w.before a0 s0 = true) {k : Nat} {c : am_C} (h : am_stat[k]? = some c) : ∀ w ∈ am_nd k c, w.before a0 s0 = true := by
  intro w hw
  have hz : (c, k) ∈ am_stat.zipIdx := by
    refine List.mem_of_getElem? (i := k) ?_
    rw [List.getElem?_zipIdx, h]
    simp
  have q := List.all_eq_true.mp am_noA _ hz
  simp only [am_nok, decide_eq_true_eq] at q
  have hm : some w ∈ (am_niL.getD k []).map (fun i => (flatC narrow_1)[i]?) := by
    rw [q]
    exact List.mem_map.mpr ⟨w, hw, rfl⟩
  obtain ⟨i, -, hi⟩ := List.mem_map.mp hm
  exact hn w (List.mem_of_getElem? hi)
theorem am_ev0 (hn : ∀ w ∈ flatC narrow_1, w.before a0 s0 = true) {k : Nat} {c : am_C} (h : am_stat[k]? = some c) : (am_tm k).eval a0 s0 none [] s0 = some (.ref (am_ad a0 s0 k)) := by
  have key : ∃ a, (am_tm k).eval a0 s0 none [] s0 = some (.ref a) := by
    rcases c with ⟨ci, fs⟩ | ⟨t, ys⟩
    · obtain ⟨a, -, -, -, q1, -⟩ := Cond.exactly_spec (args := a0) (first := s0) (o := none) (s := s0) (idx := []) (am_nd_ok hn h _ List.mem_cons_self)
      exact ⟨a, q1⟩
    · have hl := va_eqv (am_nd_ok hn h _ (List.mem_cons_of_mem _ List.mem_cons_self)) (rfl : (Term.int (Int32.ofNat ys.length)).eval a0 s0 none [] s0 = _)
      obtain ⟨t, -, ht, -⟩ := Term.length_spec hl
      exact ⟨t, ht⟩
  obtain ⟨a, ha⟩ := key
  rw [ha]
  unfold am_ad
  rw [ha]
theorem am_vt_ev (hn : ∀ w ∈ flatC narrow_1, w.before a0 s0 = true) {v : Value} (hv : am_vok v = true) : (am_vt v).eval a0 s0 none [] s0 = some (am_v (am_X0 a0 s0 b xs) v) := by
  cases v with
  | int x => rfl
  | ref a =>
    have ha : a < 116 := by simpa [am_vok] using hv
    have hs : am_stat[a]? = some (am_stat[a]'(by rw [am_stat116]; exact ha)) := List.getElem?_eq_getElem _
    show (am_tm a).eval a0 s0 none [] s0 = some (.ref (am_ph (am_X0 a0 s0 b xs) a))
    rw [am_ev0 hn hs, am_ph, if_pos (Nat.lt_trans ha (by decide))]
    rfl
  | _ => cases hv
theorem am_cok_at {k : Nat} {c : am_C} (h : am_stat[k]? = some c) : am_cok c = true := List.all_eq_true.mp am_cokA _ (List.mem_of_getElem? h)
theorem am_fld0 (hn : ∀ w ∈ flatC narrow_1, w.before a0 s0 = true) {k ci i f : Nat} {fs : List Value} {v : Value} (h : am_stat[k]? = some (.inl (ci, fs))) (hf : (am_lay ci)[i]? = some f) (hv : fs[i]? = some v) :
    ∃ (cf : ClassId) (kk : Class) (fi : Nat) (fd : Field) (cell : Cell), s0.fieldFound? (am_fd f).1 (am_fd f).2.1 (am_fd f).2.2 = some (cf, kk, fi, fd) ∧ fd.isStatic = false ∧ s0.heap[am_ad a0 s0 k]? = some cell ∧ cell.vm ≠ .unknown ∧ cell.slots[am_so s0 f]? = some (am_v (am_X0 a0 s0 b xs) v) := by
  have hck := am_cok_at h
  simp only [am_cok, Bool.and_eq_true] at hck
  have hvk : am_vok v = true := List.all_eq_true.mp hck.1.1 _ (List.mem_of_getElem? hv)
  have hvt := am_vt_ev (b := b) (xs := xs) hn hvk
  have ev : (Term.field (am_tm k) (am_fd f).1 (am_fd f).2.1 (am_fd f).2.2).eval a0 s0 none [] s0 = some (am_v (am_X0 a0 s0 b xs) v) := by
    by_cases e : Term.field (am_tm k) (am_fd f).1 (am_fd f).2.1 (am_fd f).2.2 = am_vt v
    · rw [e]
      exact hvt
    · refine va_eqv (am_nd_ok hn h (.eq _ (am_vt v)) (List.mem_cons_of_mem _ (List.mem_flatMap.mpr ⟨(f, v), ?_, ?_⟩))) hvt
      · refine List.mem_of_getElem? (i := i) ?_
        rw [List.getElem?_zip_eq_some]
        exact ⟨hf, hv⟩
      · simp only [am_eqs]
        rw [if_neg e]
        exact List.mem_singleton.mpr rfl
  have hk := am_ev0 hn h
  cases hfo : s0.fieldFound? (am_fd f).1 (am_fd f).2.1 (am_fd f).2.2 with
  | none =>
    rw [va_fe hk] at ev
    simp [State.fieldOf?, State.fieldNamed?, hfo] at ev
  | some x =>
    obtain ⟨cf, kk, fi, fd⟩ := x
    obtain ⟨g1, cell, g2, g3, -, -, g6⟩ := Term.field_spec hfo hk ev
    refine ⟨cf, kk, fi, fd, cell, rfl, g1, g2, g3, ?_⟩
    unfold am_so
    rw [hfo]
    exact g6
theorem am_st0 (hn : ∀ w ∈ flatC narrow_1, w.before a0 s0 = true) {k : Nat} {c : am_C} (h : am_stat[k]? = some c) : ∃ cell, s0.heap[am_ad a0 s0 k]? = some cell ∧ am_RR (am_X0 a0 s0 b xs) s0 c cell := by
  have hck := am_cok_at h
  have hev := am_ev0 hn h
  rcases c with ⟨ci, fs⟩ | ⟨t, ys⟩
  · simp only [am_cok, Bool.and_eq_true, decide_eq_true_eq] at hck
    obtain ⟨a, cc, cell, kk, q1, q2, q3, q4, q5, q6, -⟩ := Cond.exactly_spec (args := a0) (first := s0) (o := none) (s := s0) (idx := []) (am_nd_ok hn h _ List.mem_cons_self)
    cases q1.symm.trans hev
    refine ⟨cell, q3, ?_, q5, by rw [q6]; exact q2, fun i f v hf hv => ?_⟩
    · obtain ⟨cf, kk2, fi, fd, cell2, -, -, g1, g2, -⟩ := am_fld0 (b := b) (xs := xs) hn h (List.getElem?_eq_getElem hck.1.2) (List.getElem?_eq_getElem hck.2)
      cases g1.symm.trans q3
      exact g2
    · obtain ⟨cf, kk2, fi, fd, cell2, -, -, g1, -, g3⟩ := am_fld0 (b := b) (xs := xs) hn h hf hv
      cases g1.symm.trans q3
      exact g3
  · simp only [am_cok, Bool.and_eq_true, decide_eq_true_eq] at hck
    have hlen := va_eqv (am_nd_ok hn h _ (List.mem_cons_of_mem _ List.mem_cons_self)) (rfl : (Term.int (Int32.ofNat ys.length)).eval a0 s0 none [] s0 = _)
    obtain ⟨t', ht', cell, r1, r2, r3, r4, r5, r6, -⟩ := va_Tof (N := ys.length) (f := fun j => am_v (am_X0 a0 s0 b xs) (ys.getD j .null)) (A := fun _ => False) (by omega) (am_nd_ok hn h _ List.mem_cons_self) hlen (fun j hj => by
      have hy : ys[j]? = some ys[j] := List.getElem?_eq_getElem hj
      have hg : ys.getD j .null = ys[j] := by rw [List.getD_eq_getElem?_getD, hy]; rfl
      simp only [hg]
      refine va_eqv (am_nd_ok hn h (.eq (.elem (am_tm k) (.int (Int32.ofNat j))) (am_vt ys[j])) (List.mem_cons_of_mem _ (List.mem_cons_of_mem _ (List.mem_map.mpr ⟨(ys[j], j), ?_, rfl⟩)))) (am_vt_ev hn (List.all_eq_true.mp hck.1 _ (List.getElem_mem hj)))
      refine List.mem_of_getElem? (i := j) ?_
      rw [List.getElem?_zipIdx, hy]
      simp) (fun _ _ q => q)
    cases ht'.symm.trans hev
    refine ⟨cell, r1, r2, r3, r4, r5, fun j v hv => ?_⟩
    have hj := (List.getElem?_eq_some_iff.mp hv).1
    have := r6 j hj
    simp only [List.getD_eq_getElem?_getD, hv] at this
    exact this
theorem am_ad_lt (hn : ∀ w ∈ flatC narrow_1, w.before a0 s0 = true) {k : Nat} (hk : k < am_stat.length) : am_ad a0 s0 k < s0.heap.size := by
  obtain ⟨cell, h1, -⟩ := am_st0 (b := 0) (xs := []) hn (List.getElem?_eq_getElem hk)
  exact (Array.getElem?_eq_some_iff.mp h1).1
def am_orB (j : Nat) : Bool := match am_stat[j]? with
  | some (.inl (ci, fs)) => decide (ci = 11) && decide (fs[3]? = some (.int (Int32.ofNat j)))
  | _ => false
set_option maxRecDepth 100000 in
theorem am_orA : (List.range 38).all am_orB = true := by decide +kernel
theorem am_or {j : Nat} (hj : j < 38) : ∃ fs, am_stat[j]? = some (.inl (11, fs)) ∧ fs[3]? = some (.int (Int32.ofNat j)) := by
  have q := List.all_eq_true.mp am_orA j (List.mem_range.mpr hj)
  unfold am_orB at q
  split at q
  · rename_i ci fs h
    simp only [Bool.and_eq_true, decide_eq_true_eq] at q
    obtain ⟨rfl, q⟩ := q
    exact ⟨fs, h, q⟩
  · cases q
theorem am_inj0 (hn : ∀ w ∈ flatC narrow_1, w.before a0 s0 = true) : am_inj (am_X0 a0 s0 b xs) := by
  refine ⟨fun k hk => am_ad_lt hn hk, fun j k hj hk he => ?_⟩
  obtain ⟨fs, h1, h2⟩ := am_or hj
  obtain ⟨gs, h3, h4⟩ := am_or hk
  have he' : am_ad a0 s0 j = am_ad a0 s0 k := he
  obtain ⟨_, _, _, _, cell, -, -, q1, -, q2⟩ := am_fld0 (b := b) (xs := xs) hn h1 (i := 3) (f := 60) (by decide) h2
  obtain ⟨_, _, _, _, cell', -, -, q3, -, q4⟩ := am_fld0 (b := b) (xs := xs) hn h3 (i := 3) (f := 60) (by decide) h4
  rw [he'] at q1
  cases q1.symm.trans q3
  have e := Option.some.inj (q2.symm.trans q4)
  have e2 : Int32.ofNat j = Int32.ofNat k := Value.int.inj e
  have e3 := congrArg Int32.toNatClampNeg e2
  rw [Int32.toNatClampNeg_ofNat_of_lt (by omega), Int32.toNatClampNeg_ofNat_of_lt (by omega)] at e3
  exact e3
end AmStart
end
section
/-! What the Statement says of the start: classes, fields, links. -/
section AmFacts
variable {a0 : Array Value} {s0 s : State} {b : Nat} {xs : List Int32}
/-- the word that lays field f in class ci -/
def am_lyw (ci f : Nat) : Jvm.Cond := if am_fin f = true then .laysFinal (am_cn ci) (am_fd f).1 (am_fd f).2.1 (am_fd f).2.2 else .lays (am_cn ci) (am_fd f).1 (am_fd f).2.1 (am_fd f).2.2
set_option maxRecDepth 100000 in
theorem am_lyA : (List.range 8).all (fun ci => decide ((am_lyI.getD ci []).map (fun i => lw_tbl[i]?) = (am_lay ci).map (fun f => some (am_lyw ci f)))) = true := by decide +kernel
theorem am_ly {ci f : Nat} (hci : ci < 8) (hf : f ∈ am_lay ci) : am_lyw ci f ∈ lw_tbl := by
  have q := List.all_eq_true.mp am_lyA ci (List.mem_range.mpr hci)
  rw [decide_eq_true_eq] at q
  have hm : some (am_lyw ci f) ∈ (am_lyI.getD ci []).map (fun i => lw_tbl[i]?) := by
    rw [q]
    exact List.mem_map.mpr ⟨f, hf, rfl⟩
  obtain ⟨i, -, hi⟩ := List.mem_map.mp hm
  exact List.mem_of_getElem? hi
theorem am_ly_ok (hts : ∀ w ∈ lw_tbl, w.before a0 s0 = true) (hW : s0.WarmedH s.vm) {ci f : Nat} (hci : ci < 8) (hf : f ∈ am_lay ci) (args : Array Value) : (Jvm.Cond.lays (am_cn ci) (am_fd f).1 (am_fd f).2.1 (am_fd f).2.2).before args s = true ∨ (Jvm.Cond.laysFinal (am_cn ci) (am_fd f).1 (am_fd f).2.1 (am_fd f).2.2).before args s = true := by
  have h := hts _ (am_ly hci hf)
  unfold am_lyw at h
  split at h
  · exact Or.inr (word_at hW (good_of_word rfl) h)
  · exact Or.inl (word_at hW (good_of_word rfl) h)
set_option maxRecDepth 100000 in
theorem am_fA : (List.range 57).all (fun f => (List.range 8).any (fun ci => (am_lay ci).contains f)) = true := by decide +kernel
set_option maxRecDepth 100000 in
theorem am_tyA : (List.range 63).all (fun f => decide (parseFieldDescriptor (am_fd f).2.2 = some (am_fty f))) = true := by decide +kernel
theorem am_fty_ok {f : Nat} (hf : f < 63) : parseFieldDescriptor (am_fd f).2.2 = some (am_fty f) := by
  have q := List.all_eq_true.mp am_tyA f (List.mem_range.mpr hf)
  rw [decide_eq_true_eq] at q
  exact q
theorem am_owner {f : Nat} (hf : f < 57) : ∃ ci, ci < 8 ∧ f ∈ am_lay ci := by
  have q := List.all_eq_true.mp am_fA f (List.mem_range.mpr hf)
  obtain ⟨ci, h1, h2⟩ := List.any_eq_true.mp q
  exact ⟨ci, List.mem_range.mp h1, List.contains_iff_mem.mp h2⟩
/-- every field is found at the start -/
theorem am_found (hn : ∀ w ∈ flatC narrow_1, w.before a0 s0 = true) (hts : ∀ w ∈ lw_tbl, w.before a0 s0 = true) {f : Nat} (hf : f < 63) :
    ∃ (cf : ClassId) (k : Class) (i : Nat) (fd : Field), s0.fieldFound? (am_fd f).1 (am_fd f).2.1 (am_fd f).2.2 = some (cf, k, i, fd) ∧ fd.isStatic = false := by
  by_cases h57 : f < 57
  · obtain ⟨ci, h1, h2⟩ := am_owner h57
    rcases am_ly_ok (s := s0) hts (State.WarmedH.refl s0) h1 h2 a0 with h | h
    · obtain ⟨c, k, cf', kf', fi', fd', r1, r2, hi', hst, -⟩ := Cond.lays_spec h
      exact ⟨_, _, _, _, hi', hst⟩
    · obtain ⟨c, k, cf', kf', fi', fd', r1, r2, hi', hst, -⟩ := Cond.laysFinal_spec h
      exact ⟨_, _, _, _, hi', hst⟩
  · have key : ∀ {k ci i : Nat} {fs : List Value} {v : Value}, am_stat[k]? = some (.inl (ci, fs)) → (am_lay ci)[i]? = some f → fs[i]? = some v → ∃ (cf : ClassId) (k : Class) (i : Nat) (fd : Field), s0.fieldFound? (am_fd f).1 (am_fd f).2.1 (am_fd f).2.2 = some (cf, k, i, fd) ∧ fd.isStatic = false := by
      intro k ci i fs v e1 e2 e3
      obtain ⟨cf, kk, fi, fd, cell, g1, g2, -⟩ := am_fld0 (b := 0) (xs := []) hn e1 e2 e3
      exact ⟨cf, kk, fi, fd, g1, g2⟩
    rcases (by omega : f = 57 ∨ f = 58 ∨ f = 59 ∨ f = 60 ∨ f = 61 ∨ f = 62) with rfl | rfl | rfl | rfl | rfl | rfl
    · exact key (k := 0) (ci := 11) (i := 0) (by rfl) (by rfl) (by rfl)
    · exact key (k := 0) (ci := 11) (i := 1) (by rfl) (by rfl) (by rfl)
    · exact key (k := 0) (ci := 11) (i := 2) (by rfl) (by rfl) (by rfl)
    · exact key (k := 0) (ci := 11) (i := 3) (by rfl) (by rfl) (by rfl)
    · exact key (k := 40) (ci := 12) (i := 0) (by rfl) (by rfl) (by rfl)
    · exact key (k := 40) (ci := 12) (i := 1) (by rfl) (by rfl) (by rfl)
/-- .. and later, in the same slot -/
theorem am_foundS (hn : ∀ w ∈ flatC narrow_1, w.before a0 s0 = true) (hts : ∀ w ∈ lw_tbl, w.before a0 s0 = true) (hW : s0.WarmedH s.vm) {f : Nat} (hf : f < 63) :
    ∃ (cf : ClassId) (k : Class) (i : Nat) (fd : Field), s.fieldFound? (am_fd f).1 (am_fd f).2.1 (am_fd f).2.2 = some (cf, k, i, fd) ∧ fd.isStatic = false ∧ fd.slot = am_so s0 f ∧ fd.type = am_fty f ∧ fd.name = (am_fd f).2.1 := by
  obtain ⟨cf, k, i, fd, h1, h2⟩ := am_found hn hts hf
  obtain ⟨k', hi', -⟩ := State.fieldFound?_setVm (s := s0) hW.alike h1
  have hi2 : s.fieldFound? (am_fd f).1 (am_fd f).2.1 (am_fd f).2.2 = some (cf, k', i, fd) := by simpa only [State.fieldFound?, State.vm_setVm] using hi'
  have ht := State.fieldFound?_type hi2 (am_fty_ok hf)
  refine ⟨cf, k', i, fd, hi2, h2, ?_, ht.2, ht.1⟩
  unfold am_so
  rw [h1]
set_option maxRecDepth 100000 in
theorem am_inA : (List.range 11).all (fun ci => decide (lw_tbl[am_inI.getD ci 0]? = some (.instantiable (am_cn ci) (am_N ci))) && decide (lw_tbl[am_icI.getD ci 0]? = some (.initialized (am_cn ci)))) = true := by decide +kernel
theorem am_in {ci : Nat} (h : am_own ci = true) : Jvm.Cond.instantiable (am_cn ci) (am_N ci) ∈ lw_tbl ∧ Jvm.Cond.initialized (am_cn ci) ∈ lw_tbl := by
  have q := List.all_eq_true.mp am_inA ci (List.mem_range.mpr (of_decide_eq_true h))
  simp only [Bool.and_eq_true, decide_eq_true_eq] at q
  exact ⟨List.mem_of_getElem? q.1, List.mem_of_getElem? q.2⟩
def am_nd2 (ci : Nat) : Bool := (List.range (am_lay ci).length).all (fun j => (List.range (am_lay ci).length).all (fun k => decide (j = k) || decide ((am_fd ((am_lay ci).getD j 0)).2.1 ≠ (am_fd ((am_lay ci).getD k 0)).2.1)))
set_option maxRecDepth 100000 in
theorem am_ndA : (List.range 11).all am_nd2 = true := by decide +kernel
set_option maxRecDepth 100000 in
theorem am_f63 : (List.range 11).all (fun ci => (am_lay ci).all (fun f => decide (f < 63))) = true := by decide +kernel
theorem am_lay8 {ci f k : Nat} (h : am_own ci = true) (hf : (am_lay ci)[k]? = some f) : ci < 8 := by
  have h11 : ci < 11 := of_decide_eq_true h
  by_cases h8 : ci < 8
  · exact h8
  · rcases (by omega : ci = 8 ∨ ci = 9 ∨ ci = 10) with rfl | rfl | rfl <;> cases hf
theorem am_cf (hn : ∀ w ∈ flatC narrow_1, w.before a0 s0 = true) (hts : ∀ w ∈ lw_tbl, w.before a0 s0 = true) (hW : s0.WarmedH s.vm) {ci : Nat} (h : am_own ci = true) : am_CF (am_X0 a0 s0 b xs) s ci := by
  have h11 : ci < 11 := of_decide_eq_true h
  obtain ⟨cC, kC, hfc, hk, hkind, -⟩ := Cond.instantiable_spec (hts _ (am_in h).1)
  have hfc' : s.vm.findClass (am_cn ci) = some cC := by rw [hW.alike.findClass]; exact hfc
  have hX : (am_X0 a0 s0 b xs).2.2.1 ci = cC := by
    show am_fcl s0 (am_cn ci) = cC
    unfold am_fcl
    rw [hfc]
    rfl
  obtain ⟨k', hk', he⟩ := hW.alike.2.2 _ _ hk
  refine ⟨by rw [hX]; exact hfc', k', by rw [hX]; exact hk', by rw [he]; exact hkind, fun k f hf => ?_, fun j k f g hj hk2 hne => ?_⟩
  · have h8 := am_lay8 h hf
    have hf63 : f < 63 := of_decide_eq_true (List.all_eq_true.mp (List.all_eq_true.mp am_f63 ci (List.mem_range.mpr h11)) f (List.mem_of_getElem? hf))
    obtain ⟨cf, kf, fi, fd, g1, g2, g3, g4, -⟩ := am_foundS (s := s) hn hts hW hf63
    have q := (u_facts hfc' hk' (am_ly_ok hts hW h8 (List.mem_of_getElem? hf) #[]) g1).2.2
    rw [g3, g4] at q
    exact q
  · have h8 := am_lay8 h hj
    have hf63 : f < 63 := of_decide_eq_true (List.all_eq_true.mp (List.all_eq_true.mp am_f63 ci (List.mem_range.mpr h11)) f (List.mem_of_getElem? hj))
    have hg63 : g < 63 := of_decide_eq_true (List.all_eq_true.mp (List.all_eq_true.mp am_f63 ci (List.mem_range.mpr h11)) g (List.mem_of_getElem? hk2))
    obtain ⟨_, _, _, fd, g1, g2, g3, -, g5⟩ := am_foundS (s := s) hn hts hW hf63
    obtain ⟨_, _, _, fd', g1', g2', g3', -, g5'⟩ := am_foundS (s := s) hn hts hW hg63
    have hnm : fd.name ≠ fd'.name := by
      have q := List.all_eq_true.mp (List.all_eq_true.mp (List.all_eq_true.mp am_ndA ci (List.mem_range.mpr h11)) j (List.mem_range.mpr (List.getElem?_eq_some_iff.mp hj).1)) k (List.mem_range.mpr (List.getElem?_eq_some_iff.mp hk2).1)
      rw [List.getD_eq_getElem?_getD, hj, List.getD_eq_getElem?_getD, hk2] at q
      simp only [Bool.or_eq_true, decide_eq_true_eq] at q
      rw [g5, g5']
      exact q.resolve_left hne
    have q := u_apart (am_ly_ok hts hW h8 (List.mem_of_getElem? hj) #[]) (am_ly_ok hts hW h8 (List.mem_of_getElem? hk2) #[]) g1 g1' hnm
    rw [g3, g3'] at q
    exact q
set_option maxRecDepth 100000 in
theorem am_aoA : lw_tbl[89]? = some (.arrayOver (.object "ToldShields$Word")) ∧ lw_tbl[82]? = some (.arrayOver (.object "ToldShields$Told")) ∧ lw_tbl[376]? = some (.arrayOver (.object "ToldShields$Layer")) ∧ lw_tbl[135]? = some (.arrayClass .char) ∧ lw_tbl[136]? = some (.arrayClass .int) ∧ lw_tbl[883]? = some (.arrayClass .long) := by decide +kernel
theorem am_ao (hts : ∀ w ∈ lw_tbl, w.before a0 s0 = true) (hW : s0.WarmedH s.vm) {t : Nat} (h4 : 4 ≤ t) (h7 : t < 7) (args : Array Value) : (Jvm.Cond.arrayOver (.object (am_en t))).before args s = true := by
  obtain ⟨w1, w2, w3, -⟩ := am_aoA
  rcases (by omega : t = 4 ∨ t = 5 ∨ t = 6) with rfl | rfl | rfl
  · exact (va_AO.moved hW.alike (va_AO.of (hts _ (List.mem_of_getElem? w1)))).use
  · exact (va_AO.moved hW.alike (va_AO.of (hts _ (List.mem_of_getElem? w2)))).use
  · exact (va_AO.moved hW.alike (va_AO.of (hts _ (List.mem_of_getElem? w3)))).use
theorem am_ac (hts : ∀ w ∈ lw_tbl, w.before a0 s0 = true) (hW : s0.WarmedH s.vm) (args : Array Value) : (Jvm.Cond.arrayClass .int).before args s = true ∧ (Jvm.Cond.arrayClass .char).before args s = true ∧ (Jvm.Cond.arrayClass .long).before args s = true := by
  obtain ⟨-, -, -, w1, w2, w3⟩ := am_aoA
  exact ⟨am_w_of hts _ w2 rfl args s hW, am_w_of hts _ w1 rfl args s hW, am_w_of hts _ w3 rfl args s hW⟩
theorem am_arrOf {U : State} {c : ClassId} {k : Class} {comp : ClassId} {ty : FieldType} (h1 : U.vm.classes[c]? = some k) (h2 : k.kind = .array comp ty) : ArrOfT U c ty := fun n z => ⟨fun j q => (nomatch q), k, h1, comp, h2⟩
theorem am_af0 (hts : ∀ w ∈ lw_tbl, w.before a0 s0 = true) (hW : s0.WarmedH s.vm) {t : Nat} (h : am_oka t = true) : am_AF (am_X0 a0 s0 b xs) s t := by
  have ht : t < 7 ∧ t ≠ 2 := by simpa [am_oka] using h
  have fin : ∀ {c : ClassId} {k : Class} {comp : ClassId}, s.vm.findClass ("[" ++ (am_ty t).toString) = some c → s.vm.classes[c]? = some k → k.kind = .array comp (am_ty t) → (4 ≤ t → s.vm.findClass (am_en t) = some comp) → am_AF (am_X0 a0 s0 b xs) s t := by
    intro c k comp h1 h2 h3 h4
    have hX : (am_X0 a0 s0 b xs).2.2.2.2.1 t = c := by
      show am_fcl s0 ("[" ++ (am_ty t).toString) = c
      unfold am_fcl
      rw [← hW.alike.findClass, h1]
      rfl
    refine ⟨by rw [hX]; exact am_arrOf h2 h3, by rw [hX]; exact h1, fun q => ⟨am_ty_obj q, k, comp, by rw [hX]; exact h2, by rw [← am_ty_obj q]; exact h3, h4 q⟩⟩
  by_cases h4 : 4 ≤ t
  · obtain ⟨comp, c, k, h1, -, h3, h5, h6⟩ := Cond.arrayOver_spec (am_ao hts hW h4 ht.1 #[])
    rw [← am_ty_obj h4] at h5 h6
    exact fin h6 h3 h5 (fun _ => h1)
  · obtain ⟨w1, w2, w3⟩ := am_ac hts hW (#[] : Array Value)
    rcases (by omega : t = 0 ∨ t = 1 ∨ t = 3) with rfl | rfl | rfl
    · obtain ⟨c, k, comp, h1, h2, h3⟩ := Cond.arrayClass_spec w1
      exact fin h1 h2 h3 (fun q => absurd q (by decide))
    · obtain ⟨c, k, comp, h1, h2, h3⟩ := Cond.arrayClass_spec w2
      exact fin h1 h2 h3 (fun q => absurd q (by decide))
    · obtain ⟨c, k, comp, h1, h2, h3⟩ := Cond.arrayClass_spec w3
      exact fin h1 h2 h3 (fun q => absurd q (by decide))
/-! Links. -/
def am_flB (z : (Nat × Nat × Nat) × (String × String × Nat × Nat)) : Bool :=
  decide (z.1.2.2 < 63) && (if z.2.2.1 = "" then decide (lw_tbl[z.2.2.2.1]? = some (.fieldLink (am_ow z.1.1) z.1.2.1 z.2.1 (am_fd z.1.2.2).2.1 (am_fd z.1.2.2).2.2)) else decide (lw_tbl[z.2.2.2.1]? = some (.fieldLinkNest (am_ow z.1.1) z.1.2.1 z.2.1 (am_fd z.1.2.2).2.1 (am_fd z.1.2.2).2.2 z.2.2.1))) &&
  (decide (z.2.1 = (am_fd z.1.2.2).1) || decide (lw_tbl[z.2.2.2.2]? = some (.sameField z.2.1 (am_fd z.1.2.2).1 (am_fd z.1.2.2).2.1 (am_fd z.1.2.2).2.2))) &&
  (!am_pl z.1.1 z.1.2.1 || (decide (z.1.2.2 < 57) && (!am_fin z.1.2.2 || decide ((am_fd z.1.2.2).1 = am_ow z.1.1))))
set_option maxRecDepth 100000 in
theorem am_flA : am_flL.length = am_flW.length ∧ (am_flL.zip am_flW).all am_flB = true := by decide +kernel
theorem am_flk (hn : ∀ w ∈ flatC narrow_1, w.before a0 s0 = true) (hts : ∀ w ∈ lw_tbl, w.before a0 s0 = true) (hW : s0.WarmedH s.vm) {ow k f : Nat} (h : am_fl ow k = some f) : am_FL (am_X0 a0 s0 b xs) s ow k f := by
  obtain ⟨⟨ref, host, wi, si⟩, hy⟩ := am_zip_mem am_flA.1 (am_s3_mem h)
  have q := List.all_eq_true.mp am_flA.2 _ hy
  simp only [am_flB, Bool.and_eq_true, decide_eq_true_eq, Bool.or_eq_true, Bool.not_eq_true'] at q
  obtain ⟨⟨⟨q1, q2⟩, q3⟩, q4⟩ := q
  obtain ⟨cf, kc, i, fd, g1, g2, g3, g4, g5⟩ := am_foundS (s := s) hn hts hW q1
  have hf : s.fieldFound? ref (am_fd f).2.1 (am_fd f).2.2 = some (cf, kc, i, fd) := by
    rcases q3 with e | e
    · rw [e]
      exact g1
    · exact u_same (args := #[]) (am_w_of hts _ e rfl _ s hW) _ g1
  refine ⟨ref, (am_fd f).2.1, (am_fd f).2.2, host, cf, i, kc, fd, hf, g2, g3, g4, fun args => ?_, fun hp => ?_⟩
  · by_cases hh : host = ""
    · rw [if_pos hh, decide_eq_true_eq] at q2
      exact Or.inl (am_w_of hts _ q2 rfl args s hW)
    · rw [if_neg hh, decide_eq_true_eq] at q2
      exact Or.inr (va_Nw.use rfl (va_Nw.warmF hW (va_Nw.of rfl (hts _ (List.mem_of_getElem? q2)))))
  · have q5 := q4.resolve_left (by rw [hp]; decide)
    obtain ⟨ci, c8, hm⟩ := am_owner q5.1
    have hw := hts _ (am_ly c8 hm)
    unfold am_lyw at hw
    split at hw
    · rename_i hfin
      have hw' := word_at (args := a0) (a' := #[]) hW (good_of_word rfl) hw
      obtain ⟨c, k2, cf', kf', fi', fd', r1, r2, hi', -, -, -, ho, -⟩ := Cond.laysFinal_spec hw'
      cases g1.symm.trans hi'
      refine Or.inr ⟨hfin, ?_⟩
      rw [← q5.2.resolve_left (by rw [hfin]; decide)]
      exact ho
    · have hw' := word_at (args := a0) (a' := #[]) hW (good_of_word rfl) hw
      obtain ⟨c, k2, cf', kf', fi', fd', r1, r2, hi', -, hfin, -⟩ := Cond.lays_spec hw'
      cases g1.symm.trans hi'
      exact Or.inl hfin
end AmFacts
end
section
/-! What the Statement says of the start: statics, classes to be made, casts, the script; all together. -/
section AmFacts2
variable {a0 : Array Value} {s0 s : State} {b : Nat} {xs : List Int32}
def am_glB (z : (Nat × Nat × Nat) × (String × String × String × String × Nat × Nat × Nat)) : Bool :=
  (if z.2.2.2.2.1 = "" then decide (lw_tbl[z.2.2.2.2.2.1]? = some (.fieldLink (am_ow z.1.1) z.1.2.1 z.2.1 z.2.2.1 z.2.2.2.1)) else decide (lw_tbl[z.2.2.2.2.2.1]? = some (.fieldLinkNest (am_ow z.1.1) z.1.2.1 z.2.1 z.2.2.1 z.2.2.2.1 z.2.2.2.2.1))) &&
  decide (lw_tbl[z.2.2.2.2.2.2.1]? = some (.laysStatic z.2.1 z.2.2.1 z.2.2.2.1)) && decide (lw_tbl[z.2.2.2.2.2.2.2]? = some (.initialized z.2.1)) &&
  (match am_gst z.1.2.2 with
    | some (.ref j) => decide (j < 116) && decide (am_tm j = .static z.2.1 z.2.2.1 z.2.2.2.1)
    | some (.int x) => decide ((flatC narrow_1)[47]? = some (.eq (.static z.2.1 z.2.2.1 z.2.2.2.1) (.int x)))
    | _ => false)
set_option maxRecDepth 100000 in
theorem am_glA : am_glL.length = am_glW.length ∧ (am_glL.zip am_glW).all am_glB = true := by decide +kernel
theorem am_glk (hn : ∀ w ∈ flatC narrow_1, w.before a0 s0 = true) (hts : ∀ w ∈ lw_tbl, w.before a0 s0 = true) (hLt : am_Lt (am_X0 a0 s0 b xs) s0 s) {ow k f : Nat} (h : am_gl ow k = some f) : am_GL (am_X0 a0 s0 b xs) s ow k f := by
  obtain ⟨⟨c, n, d, host, li, lsi, ii⟩, hy⟩ := am_zip_mem am_glA.1 (am_s3_mem h)
  have q := List.all_eq_true.mp am_glA.2 _ hy
  have hW := hLt.1
  simp only [am_glB, Bool.and_eq_true, decide_eq_true_eq] at q
  obtain ⟨⟨⟨q1, q2⟩, q3⟩, q4⟩ := q
  have key : ∃ v, am_gst f = some v ∧ (Term.static c n d).eval a0 s0 none [] s0 = some (am_v (am_X0 a0 s0 b xs) v) := by
    split at q4
    · rename_i j hj
      simp only [Bool.and_eq_true, decide_eq_true_eq] at q4
      have hv := am_vt_ev (b := b) (xs := xs) hn (v := .ref j) (by simpa [am_vok] using q4.1)
      refine ⟨.ref j, hj, ?_⟩
      rw [← q4.2]
      exact hv
    · rename_i x hx
      rw [decide_eq_true_eq] at q4
      exact ⟨.int x, hx, va_eqi (hn _ (List.mem_of_getElem? q4))⟩
    · cases q4
  obtain ⟨v, hv1, hv2⟩ := key
  have hZ := va_Zof (A := fun q => s0.heap.size ≤ q) (hts _ (List.mem_of_getElem? q2)) (hts _ (List.mem_of_getElem? q3)) hv2 (fun a ha => Nat.not_le.mpr ha)
  obtain ⟨cf, kf, fi, fd, a, cell, z1, z2, z3, z4, z5, z6, z7, z8⟩ := (va_Z.moved hW.alike hZ).kept (H1 := s.heap) (fun a _ ha => hLt.2 a (Nat.lt_of_not_le ha))
  refine ⟨c, n, d, host, cf, fi, kf, fd, a, cell, v, hv1, z1, z2, z3, z4, Nat.lt_of_not_le z8, z5, (fun e => by rw [e] at z6; cases z6), z7, fun args => ?_⟩
  by_cases hh : host = ""
  · rw [if_pos hh, decide_eq_true_eq] at q1
    exact Or.inl (am_w_of hts _ q1 rfl args s hW)
  · rw [if_neg hh, decide_eq_true_eq] at q1
    exact Or.inr (va_Nw.use rfl (va_Nw.warmF hW (va_Nw.of rfl (hts _ (List.mem_of_getElem? q1)))))
set_option maxRecDepth 100000 in
theorem am_nlA : am_nlL.length = am_nlW.length ∧ (am_nlL.zip am_nlW).all (fun z => am_own z.1.2.2 && decide (lw_tbl[z.2]? = some (.classLink (am_ow z.1.1) z.1.2.1 (am_cn z.1.2.2)))) = true := by decide +kernel
theorem am_nkk (hts : ∀ w ∈ lw_tbl, w.before a0 s0 = true) (hW : s0.WarmedH s.vm) {ow k ci : Nat} (h : am_nl ow k = some ci) : am_NK s ow k ci := by
  obtain ⟨wi, hy⟩ := am_zip_mem am_nlA.1 (am_s3_mem h)
  have q := List.all_eq_true.mp am_nlA.2 _ hy
  simp only [Bool.and_eq_true, decide_eq_true_eq] at q
  refine ⟨q.1, fun args => ⟨am_w_of hts _ q.2 rfl args s hW, word_at hW (good_of_word rfl) (hts _ (am_in q.1).1), word_at hW (good_of_word rfl) (hts _ (am_in q.1).2)⟩⟩
set_option maxRecDepth 100000 in
theorem am_alA : am_alL.length = am_alW.length ∧ (am_alL.zip am_alW).all (fun z => am_oka z.1.2.2 && decide (4 ≤ z.1.2.2) && decide (lw_tbl[z.2.1]? = some (.classLink (am_ow z.1.1) z.1.2.1 (am_en z.1.2.2)))) = true := by decide +kernel
theorem am_alk (hts : ∀ w ∈ lw_tbl, w.before a0 s0 = true) (hW : s0.WarmedH s.vm) {ow k t : Nat} (h : am_al ow k = some t) : am_AL s ow k t := by
  obtain ⟨wi, hy⟩ := am_zip_mem am_alA.1 (am_s3_mem h)
  have q := List.all_eq_true.mp am_alA.2 _ hy
  simp only [Bool.and_eq_true, decide_eq_true_eq] at q
  have ht : t < 7 ∧ t ≠ 2 := by simpa [am_oka] using q.1.1
  exact ⟨q.1.1, q.1.2, am_ty_obj q.1.2, fun args => ⟨am_w_of hts _ q.2 rfl args s hW, am_ao hts hW q.1.2 ht.1 args⟩⟩
theorem am_s3l_mem {a b : Nat} {c : Int64} : ∀ {l : List (Nat × Nat × Int64)}, am_s3l a b l = some c → (a, b, c) ∈ l := by
  intro l
  induction l with
  | nil => intro h; cases h
  | cons z r ih =>
    obtain ⟨x, y, w⟩ := z
    intro h
    unfold am_s3l at h
    split at h
    · rename_i hq
      obtain ⟨rfl, rfl⟩ := hq
      cases h
      exact List.mem_cons_self
    · exact List.mem_cons_of_mem _ (ih h)
set_option maxRecDepth 100000 in
theorem am_lcA : am_lcL.length = am_lcW.length ∧ (am_lcL.zip am_lcW).all (fun z => decide (lw_tbl[z.2]? = some (.constantLong (am_ow z.1.1) z.1.2.1 z.1.2.2))) = true := by decide +kernel
theorem am_lck (hts : ∀ w ∈ lw_tbl, w.before a0 s0 = true) (hW : s0.WarmedH s.vm) {mi k : Nat} {v : Int64} (h : am_lc mi k = some v) (args : Array Value) : (Jvm.Cond.constantLong (am_ow (am_mo mi)) k v).before args s = true := by
  obtain ⟨wi, hy⟩ := am_zip_mem am_lcA.1 (am_s3l_mem h)
  have q := List.all_eq_true.mp am_lcA.2 _ hy
  rw [decide_eq_true_eq] at q
  exact am_w_of hts _ q rfl args s hW
set_option maxRecDepth 100000 in
theorem am_csA : lw_tbl[1092]? = some (.castable "ToldShields$Charges" "ToldShields$Layer") ∧ lw_tbl[1093]? = some (.castable "ToldShields$Ordinary" "ToldShields$Layer") := by decide +kernel
theorem am_castk (hn : ∀ w ∈ flatC narrow_1, w.before a0 s0 = true) (hts : ∀ w ∈ lw_tbl, w.before a0 s0 = true) (hW : s0.WarmedH s.vm) {ci t : Nat} (h : am_cast ci t = true) : ∃ c1 c2 : ClassId, s.vm.findClass (am_cn ci) = some c1 ∧ s.vm.findClass (am_en t) = some c2 ∧ s.vm.assignable c1 c2 = true := by
  simp only [am_cast, Bool.or_eq_true, Bool.and_eq_true, decide_eq_true_eq] at h
  rcases h with (⟨rfl, rfl⟩ | ⟨rfl, rfl⟩) | ⟨rfl, rfl | rfl⟩
  · obtain ⟨comp, c, k, h1, -⟩ := Cond.arrayOver_spec (am_ao hts hW (t := 4) (by decide) (by decide) #[])
    exact ⟨comp, comp, h1, h1, va_asg _ _⟩
  · obtain ⟨comp, c, k, h1, -⟩ := Cond.arrayOver_spec (am_ao hts hW (t := 5) (by decide) (by decide) #[])
    exact ⟨comp, comp, h1, h1, va_asg _ _⟩
  · obtain ⟨c1, c2, h1, h2, h3⟩ := Cond.castable_spec (am_sof_at (args := #[]) rfl hW (hts _ (List.mem_of_getElem? am_csA.1)))
    exact ⟨c1, c2, h1, h2, h3⟩
  · obtain ⟨c1, c2, h1, h2, h3⟩ := Cond.castable_spec (am_sof_at (args := #[]) rfl hW (hts _ (List.mem_of_getElem? am_csA.2)))
    exact ⟨c1, c2, h1, h2, h3⟩
theorem am_RR_moved {X : am_X} {c : am_C} {cell : Cell} (hvm : s0.vm.Alike s.vm) (h : am_RR X s0 c cell) : am_RR X s c cell := by
  rcases c with ⟨ci, fs⟩ | ⟨t, ys⟩
  · obtain ⟨h1, h2, h3, h4⟩ := h
    exact ⟨h1, h2, by rw [hvm.findClass]; exact h3, h4⟩
  · obtain ⟨h1, h2⟩ := h
    exact ⟨State.isArrayOf_alike hvm h1, h2⟩
/-- the script at the start -/
def am_Sc (s0 : State) (b : Nat) (xs : List Int32) : Prop := ∃ cell, s0.heap[b]? = some cell ∧ s0.isArrayOf cell .int ∧ cell.vm ≠ .unknown ∧ cell.slots.size = xs.length ∧ ∀ j : Nat, j < xs.length → cell.slots[j]? = some (.int (xs.getD j 0))
theorem am_fx (hn : ∀ w ∈ flatC narrow_1, w.before a0 s0 = true) (hts : ∀ w ∈ lw_tbl, w.before a0 s0 = true) (hsc : am_Sc s0 b xs) : ∀ s, am_Lt (am_X0 a0 s0 b xs) s0 s → am_Fx (am_X0 a0 s0 b xs) s := by
  intro s hLt
  have hW := hLt.1
  refine ⟨fun k c h => ?_, fun ci h => am_cf hn hts hW h, fun t h => am_af0 hts hW h, fun ow k f h => am_flk hn hts hW h, fun ow k f h => am_glk hn hts hLt h, fun ow k ci h => am_nkk hts hW h, fun ow k t h => am_alk hts hW h, fun ci t h => am_castk hn hts hW h, fun mi k v h args => am_lck hts hW h args, ?_, fun args => am_ac hts hW args⟩
  · obtain ⟨cell, h1, h2⟩ := am_st0 (b := b) (xs := xs) hn h
    refine ⟨cell, ?_, am_RR_moved hW.alike h2⟩
    show s.heap[am_ad a0 s0 k]? = some cell
    rw [hLt.2 _ (am_ad_lt hn (List.getElem?_eq_some_iff.mp h).1)]
    exact h1
  · obtain ⟨cell, h1, h2, h3, h4, h5⟩ := hsc
    have hb : b < s0.heap.size := (Array.getElem?_eq_some_iff.mp h1).1
    refine ⟨hb, cell, by rw [show (am_X0 a0 s0 b xs).2.2.2.2.2.1 = b from rfl, hLt.2 b hb]; exact h1, ?_⟩
    have hl : (xs.map Value.int).length = xs.length := List.length_map ..
    refine ⟨State.isArrayOf_alike hW.alike h2, h3, by rw [h4]; show (xs.map Value.int).length ≤ _; rw [hl]; exact Nat.le_refl _, by rw [h4]; show Int32.ofNat xs.length = Int32.ofNat (xs.map Value.int).length; rw [hl], fun j v hv => ?_⟩
    have hv' : (xs.map Value.int)[j]? = some v := hv
    rw [List.getElem?_map] at hv'
    cases hx : xs[j]? with
    | none => rw [hx] at hv'; cases hv'
    | some z =>
      rw [hx] at hv'
      cases hv'
      have := h5 j (List.getElem?_eq_some_iff.mp hx).1
      rw [List.getD_eq_getElem?_getD, hx] at this
      exact this
set_option maxRecDepth 100000 in
theorem am_zA : lw_tbl[293]? = some (.laysStatic "jdk/internal/util/Preconditions" "SIOOBE_FORMATTER" "Ljava/util/function/BiFunction;") ∧ lw_tbl[59]? = some (.initialized "jdk/internal/util/Preconditions") ∧ lw_tbl[211]? = some (.laysStatic Bundle.tN "UNASSIGNED_STACK" Bundle.steD) ∧ lw_tbl[213]? = some (.laysStatic Bundle.tN "SUPPRESSED_SENTINEL" Bundle.listD) ∧ Jvm.Cond.initialized Bundle.tN ∈ lw_tbl := by decide +kernel
set_option maxRecDepth 100000 in
theorem am_zB : (flatC narrow_1)[48]? = some (.isRef (.static "jdk/internal/util/Preconditions" "SIOOBE_FORMATTER" "Ljava/util/function/BiFunction;")) ∧ (flatC narrow_1)[2]? = some (.isRef (.static Bundle.tN "UNASSIGNED_STACK" Bundle.steD)) ∧ (flatC narrow_1)[3]? = some (.isRef (.static Bundle.tN "SUPPRESSED_SENTINEL" Bundle.listD)) := by decide +kernel
theorem am_zs (hn : ∀ w ∈ flatC narrow_1, w.before a0 s0 = true) (hts : ∀ w ∈ lw_tbl, w.before a0 s0 = true) : am_Zs (am_X0 a0 s0 b xs) s0 := by
  obtain ⟨w1, w2, -⟩ := am_zA
  exact va_Zqof (hts _ (List.mem_of_getElem? w1)) (hts _ (List.mem_of_getElem? w2)) (hn _ (List.mem_of_getElem? am_zB.1)) (fun a ha => Nat.not_le.mpr ha)
theorem am_zu (hn : ∀ w ∈ flatC narrow_1, w.before a0 s0 = true) (hts : ∀ w ∈ lw_tbl, w.before a0 s0 = true) : am_Zu (am_X0 a0 s0 b xs) s0 := by
  obtain ⟨-, -, w1, w2, w3⟩ := am_zA
  exact ⟨vx_Zqof (hts _ (List.mem_of_getElem? w1)) (hts _ w3) (hn _ (List.mem_of_getElem? am_zB.2.1)) (fun a ha => Nat.not_le.mpr ha), vx_Zqof (hts _ (List.mem_of_getElem? w2)) (hts _ w3) (hn _ (List.mem_of_getElem? am_zB.2.2)) (fun a ha => Nat.not_le.mpr ha)⟩
set_option maxRecDepth 100000 in
theorem am_nxA : ([(9, 8, 292), (10, 8, 293), (8, 9, 297), (10, 9, 304), (8, 10, 308), (9, 10, 315)] : List (Nat × Nat × Nat)).all (fun z => decide ((flatC narrow_1)[z.2.2]? = some (.not (.castable (am_cn z.1) (am_cn z.2.1))))) = true := by decide +kernel
theorem am_nx0 (hn : ∀ w ∈ flatC narrow_1, w.before a0 s0 = true) : am_Nx s0 := by
  intro x y hx hy hne
  have key : ∀ i, (x, y, i) ∈ ([(9, 8, 292), (10, 8, 293), (8, 9, 297), (10, 9, 304), (8, 10, 308), (9, 10, 315)] : List (Nat × Nat × Nat)) → va_Nc (am_cn x) (am_cn y) s0 := by
    intro i hi
    have q := List.all_eq_true.mp am_nxA _ hi
    rw [decide_eq_true_eq] at q
    exact va_Nc.of (hn _ (List.mem_of_getElem? q))
  rcases hx with rfl | rfl | rfl <;> rcases hy with rfl | rfl | rfl
  · exact absurd rfl hne
  · exact key 297 (by decide)
  · exact key 308 (by decide)
  · exact key 292 (by decide)
  · exact absurd rfl hne
  · exact key 315 (by decide)
  · exact key 293 (by decide)
  · exact key 304 (by decide)
  · exact absurd rfl hne
/-- all that am_sound leans on -/
theorem am_true {l : Launch} (hl : l.stackTraces = false) (hn : ∀ w ∈ flatC narrow_1, w.before a0 s0 = true) (hts : ∀ w ∈ lw_tbl, w.before a0 s0 = true) (hsc : am_Sc s0 b xs) :
    ∀ (n d mi pc : Nat) (lv : am_L) (st : List Value) (h : am_H) (o : am_O) (h' : am_H), am_run n d mi pc lv st h = some (o, h') →
    ∀ (p : Program) (e : Env) (s : State) (m : MethodId) (args : Array Value) (below : List Frame) (meth : Method) (c : Code) (R : Room) (h0 : am_H) (H : Heap) (locs : List Loc) (ls : Array Slot),
    am_Cx l (am_X0 a0 s0 b xs) s0 p s m meth c R d mi h0 h' → h0.length ≤ h.length → am_sz h0 ≤ am_sz h → lv.length = am_ml mi → am_Ls (am_X0 a0 s0 b xs) lv ls → am_P (am_X0 a0 s0 b xs) h H → am_old (am_X0 a0 s0 b xs) s H → (∀ q ∈ locs, (am_X0 a0 s0 b xs).2.1 ≤ q.base) →
    W p l e R s m args below meth c H locs (h.length - h0.length) (am_sz h - am_sz h0) (am_MQ (am_X0 a0 s0 b xs) s below o h0 h') (F0 m pc ls (st.map (am_v (am_X0 a0 s0 b xs)))) :=
  am_sound (am_inj0 hn) (am_fx hn hts hsc) (am_hc hts (am_inj0 hn) am_hd (am_hw hts)) (am_ht hts (am_fx hn hts hsc) hl (am_zu hn hts)) (am_hs_ok hts (am_zs hn hts)) (am_hh hts (am_nx0 hn)) (am_hw hts) am_hd am_hn1 am_hn2
end AmFacts2
end
section
/-! THE CLAIM OUT OF ONE WALK OF THE LAW'S BODY. Your part is whole_start (and what it stands on); all else here is the same for every law, but numbers. -/
def R_law : String := "ToldShieldsLaw"
def lw_P (b : Addr) (xs : List Int32) (args : Array Value) (s : State) : Prop := args = #[.ref b] ∧ s.IntsAt b xs ∧ xs.length ≤ 2048 ∧ (Jvm.Cond.and given_1 narrow_1).before args s = true
def lw_Q (_ : Array Value) (s : State) (o : Outcome) (t : State) : Prop := o = .returned (some (.int 1)) ∧ Framed s o t [] 601024 7293034
def lw_Z (below : List Frame) (a : Array Value) (s : State) : State → Prop := fun t => ∃ o, t.status = .running ∧ Ended t below o ∧ lw_Q a s o t
/-- the law's own end, with 1 on the stack, nothing written that was there before, its room as the claim has it -/
theorem lw_ret {p : Program} {l : Launch} {e : Env} {s : State} {m : MethodId} {below : List Frame} {meth : Method} {c : Code} {b : Nat} (hx : p.tables.exec = Jvm.exec) (hb : c.code = code) (hr : meth.sig.returnType = ret) (hlocks : meth.locks = false) {pc : Nat} {H : Heap} {ls : Array Slot} (hdg : decode code pc = .ok (.ireturn, 1)) : W p l e room_1 s m #[Value.ref b] below meth c H [] 601024 7293034 (lw_Z below #[Value.ref b] s) (F0 m pc ls [.int 1]) := by
  intro T hT X
  obtain ⟨fs, hret, hrun, hended, hW, hframe⟩ := X.leave (v := some (.int 1)) (hlocks := hlocks) (fun h => by rw [hr] at h; cases h)
  have hmeth' : T.vm.method? m = some meth := X.method'
  refine ⟨T.setFrames fs, ?_, .returned (some (.int 1)), hrun, hended, rfl, ⟨_, rfl⟩, hW, hframe⟩
  jvm_step X.here [X.here.top, hx, hb, hdg, hmeth', hr, ret, narrow_b1]
  (try refine ⟨rfl, ?_⟩); (try refine ⟨rfl, ?_⟩)
  first | (intro acts; rw [hret _ acts rfl rfl rfl]) | rw [hret _ _ rfl rfl rfl]
  exact Steps.refl _
/-- what holds at the law's entry: the machine, the code, the tables' words (any of lw_tbl by 'hts w (by decide +kernel)'), the script of L ints xs at the cell b, what the Statement gives of the start (any of its parts by flat_of_before) -/
def lw_At (p : Program) (s : State) (m : MethodId) (meth : Method) (c : Code) (b L : Nat) (xs : Nat → Int32) : Prop :=
  p.tables.exec = Jvm.exec ∧ c.code = code ∧ meth.sig.returnType = ret ∧ c.maxLocals = 7 ∧ s.vm.findClass R_law = some m.cls ∧ (∀ w ∈ lw_tbl, w.before #[Value.ref b] s = true) ∧ va_X b L xs s s.heap ∧ b < s.heap.size ∧ meth.locks = false ∧ (Jvm.Cond.and given_1 narrow_1).before #[Value.ref b] s = true ∧ c.exceptionTable.toList = []
/-- what is left: on every script the small machine comes from the law's entry to 1, within the room -/
def am_Law : Prop := ∀ xs : List Int32, xs.length ≤ 2048 → ∃ (n d : Nat) (h' : am_H), d ≤ 1000 ∧ am_run n d 0 0 (am_ent 0 [.ref 1000]) [] [.inr (0, xs.map Value.int)] = some (.inl (some (.int 1)), h') ∧ h'.length ≤ 601000 ∧ am_sz h' ≤ 7293034
theorem am_forget {s t : State} {L : List Loc} {k n : Nat} (h : s.sameButNew t L k n) (hL : ∀ q ∈ L, s.heap.size ≤ q.base) : s.sameButNew t [] k n := by
  obtain ⟨h1, h2, h3, h4, h5, h6⟩ := h
  refine ⟨h1, h2, h3, h4, h5, fun a c hc => ?_⟩
  obtain ⟨c', q1, q2, q3, q4⟩ := h6 a c hc
  have ha : a < s.heap.size := (Array.getElem?_eq_some_iff.mp hc).1
  exact ⟨c', q1, q2, q3, fun i _ => q4 i (fun hm => by have := hL _ hm; exact absurd ha (Nat.not_lt.mpr this))⟩
theorem whole_start (hLaw : am_Law) {p : Program} {e : Env} {s : State} {m : MethodId} {below : List Frame} {meth : Method} {c : Code} (l : Launch) (hl : l.stackTraces = false) {b L : Nat} {xs : Nat → Int32} (hL : L ≤ 2048) (C0 : lw_At p s m meth c b L xs) : W p l e room_1 s m #[Value.ref b] below meth c s.heap [] 0 0 (lw_Z below #[Value.ref b] s) (entryFrame m ([Value.ref b] : List Value).toArray 7) := by
  obtain ⟨hx, hb, hret, hml, hown, hts, hX, hbl, hlocks, hgv, htl⟩ := C0
  obtain ⟨ys, hys⟩ : ∃ ys : List Int32, ys = (List.range L).map xs := ⟨_, rfl⟩
  have hlen : ys.length = L := by rw [hys, List.length_map, List.length_range]
  have hg : ∀ j, j < L → ys.getD j 0 = xs j := by
    intro j hj
    rw [hys, List.getD_eq_getElem?_getD, List.getElem?_map, List.getElem?_range hj]
    rfl
  have hn : ∀ w ∈ flatC narrow_1, w.before #[Value.ref b] s = true := fun w hw => flat_of_before _ hgv w (by
    show w ∈ flatC given_1 ++ flatC narrow_1
    exact List.mem_append_right _ hw)
  have hsc : am_Sc s b ys := by
    obtain ⟨scr, h1, h2, h3, h4, h5⟩ := hX
    exact ⟨scr, h1, h2, h3, by rw [h4, hlen], fun j hj => by rw [hg j (by omega)]; exact h5 j (by omega)⟩
  obtain ⟨n, d, h', hd, hrun, hc1, hc2⟩ := hLaw ys (by omega)
  have hsz0 : am_sz [.inr (0, ys.map Value.int)] ≤ am_sz h' := (am_run_len _ _ _ _ _ _ _ _ _ hrun).2
  have w := am_true hl hn hts hsc n d 0 0 _ [] _ _ h' hrun p e s m #[Value.ref b] below meth c room_1 [.inr (0, ys.map Value.int)] s.heap [] (lg_sl ([Value.ref 1000].map (am_v (am_X0 #[Value.ref b] s b ys))) ++ List.replicate (7 - (lg_sl ([Value.ref 1000].map (am_v (am_X0 #[Value.ref b] s b ys)))).length) Slot.unset).toArray
    ⟨hx, hb, hml, hret, hlocks, hown, ⟨State.WarmedH.refl s, fun q _ => rfl⟩, am_fx hn hts hsc s ⟨State.WarmedH.refl s, fun q _ => rfl⟩, fun q => (by cases q), by rw [htl]; rfl, ⟨by show d + 10 ≤ 2048; omega, by show 64 * d + 200 ≤ 84000; omega, by show h'.length - _ ≤ 601024; omega, by show am_sz h' - _ ≤ 7293034; omega⟩, Nat.le_refl _⟩
    (Nat.le_refl _) (Nat.le_refl _) rfl (am_ent_ok (mj := 0) (as := [.ref 1000]) (by decide)) ⟨rfl, rfl, fun k c hk => by cases hk⟩ (fun q _ => rfl) (fun q hq => by cases hq)
  rw [Nat.sub_self, Nat.sub_self] at w
  refine W.am_mono (Q := am_MQ (am_X0 #[Value.ref b] s b ys) s below (.inl (some (.int 1))) [.inr (0, ys.map Value.int)] h') (fun t ht => ?_) ?_
  · obtain ⟨b1, b2, -, b4, L1, b5, b6⟩ := ht
    refine ⟨_, b1, b2, rfl, ⟨_, rfl⟩, b4, ?_⟩
    exact (am_forget b5 b6).mono (by omega) (by omega)
  · rw [lg_entry_eq]
    exact w
set_option maxHeartbeats 4000000 in
theorem lw_walk (hLaw : am_Law) (l : Launch) (hl : l.stackTraces = false) (b : Addr) (xs : List Int32) : MetFree l x (headSpec (Jvm.Cond.code x code maxLocals ret :: tables_1) room_1) (lw_P b xs) (fun _ _ _ _ _ => True) lw_Q := by
  refine MetFree.of_bodyS (code := code) (maxLocals := maxLocals) (ret := ret) (by decide) ?_ ?_
  · intro args s m h hn
    obtain ⟨meth, c, h1, h2, h3, h4, h5, h6, -, -⟩ := Cond.code_spec hn (atoms_spec (ws := Jvm.Cond.code x code maxLocals ret :: tables_1) h _ List.mem_cons_self)
    exact ⟨meth, c, h1, h2, h3, h4, h5, h6⟩
  · intro p e s m args below meth c s₁ B hml0 hP _
    obtain ⟨rfl, hx, hbd, hgv⟩ := hP
    obtain ⟨scr, harrAt, hlist, hof, hsmall⟩ := hx
    obtain ⟨hcb, hkn, -, -⟩ := State.arrayAt?_spec harrAt
    have hown : s.vm.findClass R_law = some m.cls := findClass_of_methodNamed B.named
    have hts0 : ∀ c ∈ (Jvm.Cond.code x code maxLocals ret :: tables_1), c.before #[Value.ref b] s = true := atoms_spec (ws := Jvm.Cond.code x code maxLocals ret :: tables_1) B.pre
    have hts : ∀ w ∈ lw_tbl, w.before #[Value.ref b] s = true := k2_hts_sels lw_privs (fun w hw => hts0 w (List.mem_cons_of_mem _ hw)) lw_privs_ok
    have hml : c.maxLocals = 7 := B.maxLocals_eq (hts0 _ List.mem_cons_self)
    have X₀ : Stand p l e room_1 s m #[Value.ref b] below meth c s₁ [] 0 0 := Stand.of_body B
    have hh0 : s₁.heap = s.heap := by rw [B.state]; rfl
    have hsz : scr.slots.size = xs.length := by rw [← Array.length_toList, hlist, List.length_map]
    have hval : ∀ j : Nat, j < xs.length → scr.slots[j]? = some (.int (xs.getD j 0)) := fun j hj => by
      rw [← Array.getElem?_toList, hlist]
      simp [hj]
    have htl : c.exceptionTable.toList = [] := by
      obtain ⟨meth', c', y1, y2, -, -, -, -, y7, -⟩ := Cond.code_spec B.named (hts0 _ List.mem_cons_self)
      cases B.method.symm.trans y1
      cases X₀.code.symm.trans y2
      have : c.exceptionTable = #[] := by simpa using y7
      rw [this]
    have hbl : b < s.heap.size := (Array.getElem?_eq_some_iff.mp hcb).1
    have hX : va_X b xs.length (fun j => xs.getD j 0) s s.heap := ⟨scr, hcb, hof, hkn, hsz, hval⟩
    have K : W p l e room_1 s m #[Value.ref b] below meth c s₁.heap [] 0 0 (lw_Z below #[Value.ref b] s) (entryFrame m ([Value.ref b] : List Value).toArray 7) := by
      rw [hh0]
      exact whole_start hLaw l hl hbd ⟨B.exec, B.bytes, B.returns, hml, hown, hts, hX, hbl, B.notSynchronized, hgv, htl⟩
    obtain ⟨t, a1, o, b1, b2, b3⟩ := K s₁ rfl X₀
    exact ⟨t, o, a1, b1, b2, b3⟩
theorem lw_pre_spec {args : Array Value} {s : State} (h : (Jvm.Cond.and given_1 narrow_1).before args s = true) (hr : rest_1_c.before args s = true) : ∃ (b : Addr) (xs : List Int32), lw_P b xs args s := by
  have hs := flat_of_before _ h
  have hq := flat_of_before _ hr
  have hc : (Cond.count 1).before args s = true := hs _ (by decide +kernel)
  have harr : (Cond.arrayOf (.arg 0) .int).before args s = true := hs _ (by decide +kernel)
  have hle : (Cond.le (.length (.arg 0)) (.int 2048)).before args s = true := hs _ (by decide +kernel)
  have hlen : (Cond.isInt (.length (.arg 0))).before args s = true := hq _ (by decide +kernel)
  have hall : (Cond.all (.arg 0) (.isInt (.elem (.arg 0) (.index 0)))).before args s = true := hq _ (by decide +kernel)
  obtain ⟨b, xs, hb, hx⟩ := State.ints_of_pre rfl harr hlen hall
  have hsm : xs.length < 2 ^ 31 := hx.choose_spec.2.2.2
  have hev : (Term.length (.arg 0)).eval args s none [] s = some (.int xs.length.toInt32) := hx.length_eval hb
  have hv := Cond.le_ints hev (show (Term.int 2048).eval args s none [] s = some (.int 2048) from rfl)
  have hd : xs.length.toInt32 ≤ 2048 := by
    simpa [Cond.before, Cond.holds, hv] using hle
  have hN : xs.length ≤ 2048 := (Int32.ofNat_le_ofNat hsm (by decide)).mp (show Int32.ofNat xs.length ≤ Int32.ofNat 2048 from hd)
  exact ⟨b, xs, Cond.one_arg hc (show args[0]? = some (.ref b) from hb), hx, hN, h⟩
theorem lw_comes (hLaw : am_Law) (l : Launch) (hl : l.stackTraces = false) : Comes l x (Jvm.Cond.code x code maxLocals ret :: tables_1) room_1 (fun tb e args s => Calls_1 tb e args s ∧ rest_1 tb e args s ∧ Pre_1 tb e args s)
    (fun _ _ args s o t => lw_Q args s o t) := by
  intro p e ha hc hk s m args below hf hfit hheap happ hpre
  obtain ⟨b, xs, hP⟩ := lw_pre_spec hpre.2.2 hpre.2.1
  obtain ⟨k, o, h1, h2, h3, hQ⟩ := lw_walk hLaw l hl b xs p e ha hc hk s m args below hf ((Spec.applies_iff_loose hf).mp happ).1 hP trivial
  exact ⟨k, o, h1, h2, h3, hQ⟩
theorem lw_frame {s t : State} {o : Outcome} {args : Array Value} (h : Framed s o t [] 601024 7293034) :
    Framed s o t (fieldLocs frame_1_writes args s ++ arrayLocs frame_1_arrays args s ++ staticLocs frame_1_statics s) 601024 7293034 := h
theorem lw_limb (hLaw : am_Law) (L : Cond) (hL : ∀ (args : Array Value) (s t : State), L.after args s (.returned (some (.int 1))) t = true) :
    ArmFor flags0 classFile x code maxLocals ret World_1 tables_1 room_1 Calls_1 rest_1 Pre_1
      (fun tb e a s o t => postC L tb e a s o t ∧ Framed s o t (fieldLocs frame_1_writes a s ++ arrayLocs frame_1_arrays a s ++ staticLocs frame_1_statics s) 601024 7293034) := by
  intro l hfl _ _ p e ha hc hk s m args below hf hfit hheap happ hpre
  obtain ⟨k, o, h1, h2, h3, rfl, hF⟩ := lw_comes hLaw l (by unfold Launch.stackTraces; rw [hfl]; decide +kernel) p e ha hc hk s m args below hf hfit hheap happ hpre
  exact ⟨k, _, h1, h2, h3, hL args s _, lw_frame hF⟩
theorem am_vc (hLaw : am_Law) : Claimed_1_1 ∧ Claimed_1_2 := ⟨lw_limb hLaw limb_1_1 (fun args s t => by simp [limb_1_1, Cond.after, Cond.holds, Cond.value]), lw_limb hLaw limb_1_2 (fun args s t => Cond.after_iff.mpr (by
  first | (rw [show limb_1_2 = Cond.eq .result (.int 1) from rfl, Cond.eq_ints (x := 1) (y := 1) rfl rfl]; simp; done) | (simp [limb_1_2, Cond.value, Term.eval]; done)))⟩
end
section
/-! More rules of the small machine: a block of steps that ends in a branch; reads and writes of cells that are known; calls. -/
section AmRules
variable {d mi pc pc' len : Nat} {lv lv' : am_L} {st st' : List Value} {h h1 h' : am_H} {o : am_O}
theorem am_R.ites (k : Nat) {P : Prop} [Decidable P] {T F : Nat} (e : am_nxs k mi pc lv st h = some (if P then T else F, lv', st', h1)) (k1 : P → am_R d mi T lv' st' h1 o h') (k2 : ¬ P → am_R d mi F lv' st' h1 o h') : am_R d mi pc lv st h o h' := by
  by_cases hP : P
  · rw [if_pos hP] at e
    exact am_R.nxs k e (k1 hP)
  · rw [if_neg hP] at e
    exact am_R.nxs k e (k2 hP)
theorem am_nx_gf {f a ci k : Nat} {fs : List Value} {v : Value} (hc : am_code mi pc = some (.getfield f, len)) (ha : am_at h a = some (.inl (ci, fs))) (hp : am_pos ci f = some k) (hv : fs[k]? = some v) : am_nx mi pc lv (.ref a :: st) h = some (pc + len, lv, v :: st, h) := by
  simp [am_nx, hc, am_ret, am_thr, am_inv, am_one, am_push, am_sto, am_ari, am_br, am_rd, ha, hp, hv]
theorem am_R.gf {f a ci k : Nat} {fs : List Value} {v : Value} (hc : am_code mi pc = some (.getfield f, len)) (ha : am_at h a = some (.inl (ci, fs))) (hp : am_pos ci f = some k) (hv : fs[k]? = some v) (hq : pc + len = pc') (k1 : am_R d mi pc' lv (v :: st) h o h') : am_R d mi pc lv (.ref a :: st) h o h' := by
  subst hq
  exact am_R.nx (am_nx_gf hc ha hp hv) k1
theorem am_R.al {a t : Nat} {xs : List Value} (hc : am_code mi pc = some (.arraylength, len)) (ha : am_at h a = some (.inr (t, xs))) (hq : pc + len = pc') (k1 : am_R d mi pc' lv (.int (Int32.ofNat xs.length) :: st) h o h') : am_R d mi pc lv (.ref a :: st) h o h' := by
  subst hq
  refine am_R.nx (pc' := pc + len) (lv' := lv) (st' := .int (Int32.ofNat xs.length) :: st) (h1 := h) ?_ k1
  simp [am_nx, hc, am_ret, am_thr, am_inv, am_one, am_push, am_sto, am_ari, am_br, am_rd, ha]
/-- an index that is a number -/
theorem am_ixN {i n : Nat} (h1 : i < n) (h2 : n < 2 ^ 31) : am_ix (Int32.ofNat i) n = true := by
  unfold am_ix
  rw [decide_eq_true_eq]
  have e : (Int32.ofNat i).toNatClampNeg = i := Int32.toNatClampNeg_ofNat_of_lt (by omega)
  rw [e]
  intro q
  rcases q with q | q
  · exact absurd q (by rw [Int32.not_lt]; exact (Int32.ofNat_le_ofNat (by decide) (by omega)).mpr (Nat.zero_le _))
  · omega
theorem am_R.retE {i : Instr} {v v' : Option Value} (hc : am_code mi pc = some (i, len)) (e : am_ret mi i st = some v) (hv : v = v') : am_R d mi pc lv st h (.inl v') h := by
  subst hv
  exact am_R.ret hc e
end AmRules
end
section
/-! The law's world: 45 cells at fixed addresses (w), and what was made since (g). -/
def am_h (w : Nat → am_C) (g : am_H) : am_H := (List.range 45).map w ++ g
def am_pu (w : Nat → am_C) (k : Nat) (c : am_C) : Nat → am_C := fun j => if j = k then c else w j
theorem am_pu_eq (w : Nat → am_C) (k : Nat) (c : am_C) : am_pu w k c k = c := if_pos rfl
theorem am_pu_ne {w : Nat → am_C} {k j : Nat} {c : am_C} (h : j ≠ k) : am_pu w k c j = w j := if_neg h
theorem am_h_len (w : Nat → am_C) (g : am_H) : (am_h w g).length = 45 + g.length := by
  simp [am_h]
theorem am_h_get {w : Nat → am_C} {g : am_H} {k : Nat} (hk : k < 45) : (am_h w g)[k]? = some (w k) := by
  unfold am_h
  rw [List.getElem?_append_left (by simpa using hk), List.getElem?_map, List.getElem?_range hk]
  rfl
theorem am_h_new {w : Nat → am_C} {g : am_H} (j : Nat) : (am_h w g)[45 + j]? = g[j]? := by
  unfold am_h
  rw [List.getElem?_append_right (by simp)]
  simp
theorem am_wf {w : Nat → am_C} {g : am_H} {c : am_C} (k : Nat) (hk : k < 45) (e : w k = c) : am_at (am_h w g) (1000 + k) = some c := by
  unfold am_at
  rw [if_neg (by omega), show 1000 + k - 1000 = k by omega, am_h_get hk, e]
theorem am_gfn {w : Nat → am_C} {g : am_H} {c : am_C} (j : Nat) (e : g[j]? = some c) : am_at (am_h w g) (1045 + j) = some c := by
  unfold am_at
  rw [if_neg (by omega), show 1045 + j - 1000 = 45 + j by omega, am_h_new, e]
theorem am_h_set {w : Nat → am_C} {g : am_H} {k : Nat} {c : am_C} (hk : k < 45) : (am_h w g).set k c = am_h (am_pu w k c) g := by
  unfold am_h
  rw [List.set_append_left (i := k) (h := by simpa using hk)]
  congr 1
  apply List.ext_getElem?
  intro i
  by_cases hi : i < 45
  · rw [List.getElem?_map, List.getElem?_range hi]
    by_cases hik : i = k
    · subst hik
      rw [List.getElem?_set_self (by simpa using hk)]
      simp [am_pu]
    · rw [List.getElem?_set_ne (fun q => hik q.symm), List.getElem?_map, List.getElem?_range hi]
      simp [am_pu, hik]
  · rw [List.getElem?_eq_none (by simp; omega), List.getElem?_eq_none (by simp; omega)]
theorem am_h_setn {w : Nat → am_C} {g : am_H} {j : Nat} {c : am_C} : (am_h w g).set (45 + j) c = am_h w (g.set j c) := by
  unfold am_h
  rw [List.set_append_right (h := by simp)]
  simp
theorem am_h_push {w : Nat → am_C} {g : am_H} {c : am_C} : am_h w g ++ [c] = am_h w (g ++ [c]) := by
  unfold am_h
  rw [List.append_assoc]
theorem am_ws {w : Nat → am_C} {g : am_H} {c : am_C} {k : Nat} (h0 : 0 < k) (hk : k < 45) : am_set (am_h w g) (1000 + k) c = some (am_h (am_pu w k c) g) := by
  unfold am_set
  rw [if_pos ⟨by omega, by rw [am_h_len]; omega⟩, show 1000 + k - 1000 = k by omega, am_h_set hk]
theorem am_gsn {w : Nat → am_C} {g : am_H} {c : am_C} {j : Nat} (hj : j < g.length) : am_set (am_h w g) (1045 + j) c = some (am_h w (g.set j c)) := by
  unfold am_set
  rw [if_pos ⟨by omega, by rw [am_h_len]; omega⟩, show 1045 + j - 1000 = 45 + j by omega, am_h_setn]
/-- an array of ints (0) or chars (1) -/
def am_I (t : Nat) (xs : List Int32) : am_C := .inr (t, xs.map Value.int)
section AmW
variable {d mi pc pc' len : Nat} {lv lv' : am_L} {st st' : List Value} {h h1 h' : am_H} {o : am_O}
/-- a field is written -/
theorem am_R.pf {f a ci k : Nat} {fs : List Value} {v : Value} (hc : am_code mi pc = some (.putfield f, len)) (ha : am_at h a = some (.inl (ci, fs))) (hp : am_pos ci f = some k) (hk : k < fs.length) (hf : fits (am_fty f) v = true) (hfin : am_fin f = true → am_ini mi = true) (hs : am_set h a (.inl (ci, fs.set k v)) = some h1) (hq : pc + len = pc')
    (k1 : am_R d mi pc' lv st h1 o h') : am_R d mi pc lv (v :: .ref a :: st) h o h' := by
  subst hq
  refine am_R.nx (pc' := pc + len) (lv' := lv) (st' := st) (h1 := h1) ?_ k1
  have hx : am_wr mi (.putfield f) (v :: .ref a :: st) h = some (st, h1) := by
    simp only [am_wr, ha, hp]
    rw [if_pos ⟨hk, hf, hfin⟩, hs]
    rfl
  simp [am_nx, hc, am_ret, am_thr, am_inv, am_one, am_push, am_sto, am_ari, am_br, am_rd, hx]
/-- an element of an array of numbers -/
theorem am_el_ok {t a i : Nat} {xs : List Value} {v : Value} (ha : am_at h a = some (.inr (t, xs))) (hi : i < xs.length) (hl : xs.length < 2 ^ 31) (hv : xs[i]? = some v) : am_el t (.int (Int32.ofNat i) :: .ref a :: st) h = some (v :: st) := by
  have e : (Int32.ofNat i).toNatClampNeg = i := Int32.toNatClampNeg_ofNat_of_lt (by omega)
  simp only [am_el, ha, e, hv, Option.map_some]
  rw [if_pos ⟨trivial, am_ixN hi hl⟩]
theorem am_map_get {xs : List Int32} {i : Nat} (hi : i < xs.length) : (xs.map Value.int)[i]? = some (.int (xs.getD i 0)) := by
  rw [List.getElem?_map, List.getD_eq_getElem?_getD, List.getElem?_eq_getElem hi]
  rfl
theorem am_R.ldi {a i : Nat} {xs : List Int32} (hc : am_code mi pc = some (.iaload, len)) (ha : am_at h a = some (am_I 0 xs)) (hi : i < xs.length) (hl : xs.length < 2 ^ 31) (hq : pc + len = pc') (k1 : am_R d mi pc' lv (.int (xs.getD i 0) :: st) h o h') : am_R d mi pc lv (.int (Int32.ofNat i) :: .ref a :: st) h o h' := by
  subst hq
  refine am_R.nx (pc' := pc + len) (lv' := lv) (st' := .int (xs.getD i 0) :: st) (h1 := h) ?_ k1
  have hx := am_el_ok (st := st) (t := 0) ha (by rw [List.length_map]; exact hi) (by rw [List.length_map]; exact hl) (am_map_get hi)
  simp [am_nx, hc, am_ret, am_thr, am_inv, am_one, am_push, am_sto, am_ari, am_br, am_rd, hx]
theorem am_R.ldc {a i : Nat} {xs : List Int32} (hc : am_code mi pc = some (.caload, len)) (ha : am_at h a = some (am_I 1 xs)) (hi : i < xs.length) (hl : xs.length < 2 ^ 31) (hq : pc + len = pc') (k1 : am_R d mi pc' lv (.int (xs.getD i 0) :: st) h o h') : am_R d mi pc lv (.int (Int32.ofNat i) :: .ref a :: st) h o h' := by
  subst hq
  refine am_R.nx (pc' := pc + len) (lv' := lv) (st' := .int (xs.getD i 0) :: st) (h1 := h) ?_ k1
  have hx := am_el_ok (st := st) (t := 1) ha (by rw [List.length_map]; exact hi) (by rw [List.length_map]; exact hl) (am_map_get hi)
  simp [am_nx, hc, am_ret, am_thr, am_inv, am_one, am_push, am_sto, am_ari, am_br, am_rd, hx]
theorem am_st_ok {t k a i : Nat} {xs : List Int32} {v : Int32} (hk : t = k) (ha : am_at h a = some (am_I t xs)) (hi : i < xs.length) (hl : xs.length < 2 ^ 31) (hv : am_ok t (.int v) h = true) (hs : am_set h a (am_I t (xs.set i v)) = some h1) (ins : Instr) (hki : am_kind ins = some k) (hnp : ∀ f, ins ≠ .putfield f) : am_wr mi ins (.int v :: .int (Int32.ofNat i) :: .ref a :: st) h = some (st, h1) := by
  have e : (Int32.ofNat i).toNatClampNeg = i := Int32.toNatClampNeg_ofNat_of_lt (by omega)
  unfold am_wr
  split
  · rename_i f
    exact absurd rfl (hnp f)
  · unfold am_I at ha hs
    simp only [hki, ha, e]
    rw [if_pos ⟨Or.inl hk, am_ixN (by rw [List.length_map]; exact hi) (by rw [List.length_map]; exact hl), hv⟩]
    rw [List.map_set] at hs
    rw [hs]
    rfl
theorem am_R.sti {a i : Nat} {xs : List Int32} {v : Int32} (hc : am_code mi pc = some (.iastore, len)) (ha : am_at h a = some (am_I 0 xs)) (hi : i < xs.length) (hl : xs.length < 2 ^ 31) (hs : am_set h a (am_I 0 (xs.set i v)) = some h1) (hq : pc + len = pc') (k1 : am_R d mi pc' lv st h1 o h') : am_R d mi pc lv (.int v :: .int (Int32.ofNat i) :: .ref a :: st) h o h' := by
  subst hq
  refine am_R.nx (pc' := pc + len) (lv' := lv) (st' := st) (h1 := h1) ?_ k1
  have hx := am_st_ok (mi := mi) (st := st) (k := 0) rfl ha hi hl rfl hs .iastore rfl (fun f q => by cases q)
  simp [am_nx, hc, am_ret, am_thr, am_inv, am_one, am_push, am_sto, am_ari, am_br, am_rd, hx]
theorem am_R.stc {a i : Nat} {xs : List Int32} {v : Int32} (hc : am_code mi pc = some (.castore, len)) (ha : am_at h a = some (am_I 1 xs)) (hi : i < xs.length) (hl : xs.length < 2 ^ 31) (hv : 0 ≤ v ∧ v ≤ 65535) (hs : am_set h a (am_I 1 (xs.set i v)) = some h1) (hq : pc + len = pc') (k1 : am_R d mi pc' lv st h1 o h') : am_R d mi pc lv (.int v :: .int (Int32.ofNat i) :: .ref a :: st) h o h' := by
  subst hq
  refine am_R.nx (pc' := pc + len) (lv' := lv) (st' := st) (h1 := h1) ?_ k1
  have hx := am_st_ok (mi := mi) (st := st) (k := 1) rfl ha hi hl (by simp [am_ok, hv.1, hv.2]) hs .castore rfl (fun f q => by cases q)
  simp [am_nx, hc, am_ret, am_thr, am_inv, am_one, am_push, am_sto, am_ari, am_br, am_rd, hx]
/-- numbers -/
theorem am_inc (i : Nat) : Int32.ofNat i + 1 = Int32.ofNat (i + 1) := by
  rw [Int32.ofNat_add]
  rfl
theorem am_ltN {i n : Nat} (hi : i < 2 ^ 31) (hn : n < 2 ^ 31) : Int32.ofNat i < Int32.ofNat n ↔ i < n := Int32.ofNat_lt_ofNat hi hn
theorem am_leN {i n : Nat} (hi : i < 2 ^ 31) (hn : n < 2 ^ 31) : Int32.ofNat i ≤ Int32.ofNat n ↔ i ≤ n := Int32.ofNat_le_ofNat hi hn
theorem am_eqN {i n : Nat} (hi : i < 2 ^ 31) (hn : n < 2 ^ 31) : Int32.ofNat i = Int32.ofNat n ↔ i = n := by
  constructor
  · intro e
    have := congrArg Int32.toNatClampNeg e
    rw [Int32.toNatClampNeg_ofNat_of_lt hi, Int32.toNatClampNeg_ofNat_of_lt hn] at this
    exact this
  · intro e
    rw [e]
/-- a number that is not below 0 -/
theorem am_natOf {v : Int32} (h : ¬ v < 0) : v = Int32.ofNat v.toNatClampNeg := by
  have h1 : 0 ≤ v := Int32.not_lt.mp h
  have h2 : 0 ≤ v.toInt := Int32.le_iff_toInt_le.mp h1
  apply Int32.toInt_inj.mp
  have h4 : v.toInt ≤ 2147483647 := Int32.toInt_le v
  rw [Int32.toInt_ofNat_of_lt (by unfold Int32.toNatClampNeg; omega)]
  unfold Int32.toNatClampNeg
  omega
end AmW
end
section
/-! Rules for calls: receivers that are known; static ones. -/
def am_ivx (i : Instr) : Option Nat := match i with
  | .invokevirtual x => some x
  | .invokespecial x => some x
  | .invokeinterface x _ => some x
  | _ => none
section AmCallR
variable {d mi pc pc' len : Nat} {lv : am_L} {st : List Value} {h h1 h' : am_H} {o : am_O} {v : Option Value}
theorem am_clv {x n a ci mj : Nat} {i : Instr} {fs as' r : List Value} (hc : am_code mi pc = some (i, len)) (hi : am_ivx i = some x) (harg : am_arg x = some (n, false)) (hn : as'.length + 1 = n) (ha : am_at h a = some (.inl (ci, fs))) (ht : am_tgt x ci = some mj) (hf : am_fit mj (.ref a :: as') r = true) :
    am_cl mi pc ((Value.ref a :: as').reverse ++ r) h = some (mj, .ref a :: as', r, len) := by
  have hl : n ≤ ((Value.ref a :: as').reverse ++ r).length := by simp; omega
  have hlen : (Value.ref a :: as').reverse.length = n := by simp; omega
  have ht1 : (((Value.ref a :: as').reverse ++ r).take n).reverse = .ref a :: as' := by
    rw [List.take_append_of_le_length (by omega), List.take_of_length_le (by omega), List.reverse_reverse]
  have ht2 : ((Value.ref a :: as').reverse ++ r).drop n = r := by
    rw [List.drop_append_of_le_length (by omega), List.drop_of_length_le (by omega), List.nil_append]
  unfold am_ivx at hi
  split at hi
  · cases hi
    have key : am_inv (.invokevirtual x) ((Value.ref a :: as').reverse ++ r) h = some (mj, .ref a :: as', r) := by
      simp only [am_inv, harg]
      rw [if_pos hl, if_neg (by decide), ht1, ht2]
      simp only [ha, ht]
      rw [if_pos hf]
    simp only [am_cl, hc, am_ret, am_thr, key, Option.map_some]
  · cases hi
    have key : am_inv (.invokespecial x) ((Value.ref a :: as').reverse ++ r) h = some (mj, .ref a :: as', r) := by
      simp only [am_inv, harg]
      rw [if_pos hl, if_neg (by decide), ht1, ht2]
      simp only [ha, ht]
      rw [if_pos hf]
    simp only [am_cl, hc, am_ret, am_thr, key, Option.map_some]
  · rename_i y
    cases hi
    have key : am_inv (.invokeinterface x y) ((Value.ref a :: as').reverse ++ r) h = some (mj, .ref a :: as', r) := by
      simp only [am_inv, harg]
      rw [if_pos hl, if_neg (by decide), ht1, ht2]
      simp only [ha, ht]
      rw [if_pos hf]
    simp only [am_cl, hc, am_ret, am_thr, key, Option.map_some]
  · cases hi
/-- a call that returns -/
theorem am_R.cv {x n a ci mj : Nat} {i : Instr} {fs as' r : List Value} (hc : am_code mi pc = some (i, len)) (hi : am_ivx i = some x) (harg : am_arg x = some (n, false)) (hn : as'.length + 1 = n) (ha : am_at h a = some (.inl (ci, fs))) (ht : am_tgt x ci = some mj) (hf : am_fit mj (.ref a :: as') r = true)
    (c : am_R d mj 0 (am_ent mj (.ref a :: as')) [] h (.inl v) h1) (hq : pc + len = pc') (k : am_R (d + 1) mi pc' lv (v.toList ++ r) h1 o h') : am_R (d + 1) mi pc lv ((Value.ref a :: as').reverse ++ r) h o h' := by
  subst hq
  exact am_R.call (am_clv hc hi harg hn ha ht hf) c k
/-- a call that throws what is not caught here -/
theorem am_R.cvp {x n a ci mj z : Nat} {i : Instr} {fs as' r : List Value} (hc : am_code mi pc = some (i, len)) (hi : am_ivx i = some x) (harg : am_arg x = some (n, false)) (hn : as'.length + 1 = n) (ha : am_at h a = some (.inl (ci, fs))) (ht : am_tgt x ci = some mj) (hf : am_fit mj (.ref a :: as') r = true)
    (c : am_R d mj 0 (am_ent mj (.ref a :: as')) [] h (.inr z) h1) (hh : am_hs mi = []) : am_R (d + 1) mi pc lv ((Value.ref a :: as').reverse ++ r) h (.inr z) h1 := by
  refine am_R.pass (am_clv hc hi harg hn ha ht hf) c ?_ ?_
  · unfold am_hx
    split
    · unfold am_hnd
      rw [hh]
      rfl
    · rfl
  · unfold am_noh
    rw [hh]
    rfl
/-- a call that throws what is caught here -/
theorem am_R.cvc {x n a ci mj z y : Nat} {i : Instr} {fs as' r : List Value} (hc : am_code mi pc = some (i, len)) (hi : am_ivx i = some x) (harg : am_arg x = some (n, false)) (hn : as'.length + 1 = n) (ha : am_at h a = some (.inl (ci, fs))) (ht : am_tgt x ci = some mj) (hf : am_fit mj (.ref a :: as') r = true)
    (c : am_R d mj 0 (am_ent mj (.ref a :: as')) [] h (.inr z) h1) (hz : am_at h1 z = some (.inl (y, []))) (hh : am_hnd mi pc y = some pc') (k : am_R (d + 1) mi pc' lv [.ref z] h1 o h') : am_R (d + 1) mi pc lv ((Value.ref a :: as').reverse ++ r) h o h' := by
  refine am_R.catch (am_clv hc hi harg hn ha ht hf) c ?_ k
  unfold am_hx
  rw [hz]
  exact hh
/-- a static call that returns -/
theorem am_R.cs {mj : Nat} {as r : List Value} (e : am_cl mi pc st h = some (mj, as, r, len)) (c : am_R d mj 0 (am_ent mj as) [] h (.inl v) h1) (hq : pc + len = pc') (k : am_R (d + 1) mi pc' lv (v.toList ++ r) h1 o h') : am_R (d + 1) mi pc lv st h o h' := by
  subst hq
  exact am_R.call e c k
/-- a long is written -/
theorem am_R.stl {a : Nat} {x v : Int64} (hc : am_code mi pc = some (.lastore, len)) (ha : am_at h a = some (.inr (3, [.long x]))) (hs : am_set h a (.inr (3, [.long v])) = some h1) (hq : pc + len = pc') (k1 : am_R d mi pc' lv st h1 o h') : am_R d mi pc lv (.long v :: .int 0 :: .ref a :: st) h o h' := by
  subst hq
  refine am_R.nx (pc' := pc + len) (lv' := lv) (st' := st) (h1 := h1) ?_ k1
  have hx : am_wr mi .lastore (.long v :: .int 0 :: .ref a :: st) h = some (st, h1) := by
    simp only [am_wr, am_kind, ha]
    rw [if_pos ⟨Or.inl trivial, rfl, rfl⟩]
    have e : ([Value.long x].set (Int32.toNatClampNeg 0) (Value.long v)) = [.long v] := rfl
    rw [e, hs]
    rfl
  simp [am_nx, hc, am_ret, am_thr, am_inv, am_one, am_push, am_sto, am_ari, am_br, am_rd, hx]
theorem am_R.ldl {a : Nat} {x : Int64} (hc : am_code mi pc = some (.laload, len)) (ha : am_at h a = some (.inr (3, [.long x]))) (hq : pc + len = pc') (k1 : am_R d mi pc' lv (.long x :: st) h o h') : am_R d mi pc lv (.int 0 :: .ref a :: st) h o h' := by
  subst hq
  refine am_R.nx (pc' := pc + len) (lv' := lv) (st' := .long x :: st) (h1 := h) ?_ k1
  have hx : am_el 3 (.int 0 :: .ref a :: st) h = some (.long x :: st) := by
    simp only [am_el, ha]
    rw [if_pos ⟨trivial, rfl⟩]
    rfl
  simp [am_nx, hc, am_ret, am_thr, am_inv, am_one, am_push, am_sto, am_ari, am_br, am_rd, hx]
/-- 'throw new X(message)' -/
theorem am_R.tw {x : Nat} (hc : am_code mi pc = some (.instanceof x, len)) (hh : am_hs mi = []) : am_R d mi pc lv [] h (.inr (1000 + h.length)) (h ++ [.inl (x, [])]) := by
  refine am_R.thr hc rfl ?_
  unfold am_thr am_noh
  rw [hh]
  rfl
/-- an element of an array of references -/
theorem am_R.lda {a t i : Nat} {xs : List Value} {v : Value} (hc : am_code mi pc = some (.aaload, len)) (ha : am_at h a = some (.inr (t, xs))) (h4 : 4 ≤ t) (hi : i < xs.length) (hl : xs.length < 2 ^ 31) (hv : xs[i]? = some v) (hq : pc + len = pc') (k1 : am_R d mi pc' lv (v :: st) h o h') : am_R d mi pc lv (.int (Int32.ofNat i) :: .ref a :: st) h o h' := by
  subst hq
  refine am_R.nx (pc' := pc + len) (lv' := lv) (st' := v :: st) (h1 := h) ?_ k1
  have e : (Int32.ofNat i).toNatClampNeg = i := Int32.toNatClampNeg_ofNat_of_lt (by omega)
  simp only [am_nx, hc, am_ret, am_thr, am_inv, am_one, am_push, am_sto, am_ari, am_br, am_rd, ha, e, hv, Option.map_some]
  rw [if_pos ⟨h4, am_ixN hi hl⟩]
theorem aw_at5 {w : Nat → am_C} {g : am_H} {r : Nat} {c : am_C} (hr : r < 4) (e : w (5 + 4 * r) = c) : am_at (am_h w g) (1005 + 4 * r) = some c := by
  rw [show 1005 + 4 * r = 1000 + (5 + 4 * r) by omega]
  exact am_wf _ (by omega) e
theorem aw_at6 {w : Nat → am_C} {g : am_H} {r : Nat} {c : am_C} (hr : r < 4) (e : w (6 + 4 * r) = c) : am_at (am_h w g) (1006 + 4 * r) = some c := by
  rw [show 1006 + 4 * r = 1000 + (6 + 4 * r) by omega]
  exact am_wf _ (by omega) e
theorem aw_at7 {w : Nat → am_C} {g : am_H} {r : Nat} {c : am_C} (hr : r < 4) (e : w (7 + 4 * r) = c) : am_at (am_h w g) (1007 + 4 * r) = some c := by
  rw [show 1007 + 4 * r = 1000 + (7 + 4 * r) by omega]
  exact am_wf _ (by omega) e
theorem aw_at8 {w : Nat → am_C} {g : am_H} {r : Nat} {c : am_C} (hr : r < 4) (e : w (8 + 4 * r) = c) : am_at (am_h w g) (1008 + 4 * r) = some c := by
  rw [show 1008 + 4 * r = 1000 + (8 + 4 * r) by omega]
  exact am_wf _ (by omega) e
end AmCallR
end
section
/-! What holds between two calls of the law: the class's cells and the reference's. -/
theorem am_add (a n : Nat) : Int32.ofNat a + Int32.ofNat n = Int32.ofNat (a + n) := (Int32.ofNat_add ..).symm
theorem am_wsE {w w' : Nat → am_C} {g : am_H} {c : am_C} {k : Nat} (h0 : 0 < k) (hk : k < 45) (e : am_pu w k c = w') : am_set (am_h w g) (1000 + k) c = some (am_h w' g) := by
  rw [← e]
  exact am_ws h0 hk
section AmR3
variable {d mi pc pc' len : Nat} {lv lv' : am_L} {st st' : List Value} {h h1 h' : am_H} {o : am_O}
theorem am_R.ali {a t : Nat} {xs : List Int32} (hc : am_code mi pc = some (.arraylength, len)) (ha : am_at h a = some (am_I t xs)) (hq : pc + len = pc') (k1 : am_R d mi pc' lv (.int (Int32.ofNat xs.length) :: st) h o h') : am_R d mi pc lv (.ref a :: st) h o h' := by
  refine am_R.al (xs := xs.map Value.int) (t := t) hc ha hq ?_
  rw [List.length_map]
  exact k1
/-- an int is returned: it fits -/
theorem am_R.reti {x : Int32} {ty : FieldType} (hc : am_code mi pc = some (.ireturn, len)) (hr : am_mr mi = some ty) (hf : fits ty (.int x) = true) : am_R d mi pc lv [.int x] h (.inl (some (.int x))) h := by
  refine am_R.ret hc ?_
  simp only [am_ret, hr, hf, if_true]
end AmR3
def aw_c1 (tl pl sp : Nat) : am_C := .inl (0, [.ref 1002, .int (Int32.ofNat tl), .ref 1003, .int (Int32.ofNat pl), .ref 1004, .ref (1005 + 4 * sp)])
def aw_c21 (ft ty wr wd wt sn : Int32) : am_C := .inl (2, [.int ft, .int ty, .ref 1022, .int wr, .ref 1023, .ref 1024, .ref 1025, .ref 1026, .ref 1027, .ref 1028, .ref 1029, .ref 1030, .ref 1031, .ref 1032, .int wd, .int wt, .ref 1033, .ref 1034, .int sn, .ref 1035, .ref 1036, .ref 1037, .ref 1038, .ref 1039, .ref 1040, .ref 1041, .ref 1042, .ref 1043])
/-! The invariant. -/
/-- the reference's number of the class's word j -/
def aw_tauL : List Int32 := [0, 1, 2, 3, 4, 5, 6, 7, 8, 36, 9, 13, 14, 15, 16, 23, 24, 18, 11, 10, 12, 19, 20, 21, 22, 17, 31, 32, 33, 34, 35, 25, 26, 27, 28, 29, 30, -1]
def aw_tau (j : Nat) : Int32 := aw_tauL.getD j (-1)
/-- how long word j, or the one that it is turned to, may be -/
def aw_wlL : List Nat := [6, 6, 5, 5, 5, 5, 7, 6, 4, 14, 3, 9, 3, 1, 1, 7, 4, 5, 4, 4, 4, 5, 7, 7, 7, 1, 3, 5, 4, 4, 3, 7, 6, 7, 8, 7, 8, 0]
def aw_wl (j : Nat) : Nat := aw_wlL.getD j 0
def aw_pgl (js : List Nat) : Nat := (js.map fun j => aw_wl j + 1).sum
def aw_n1 : List Int64 := [498, 52663764, 8040627, 1922629, 726612, 19958149, 17903932997, 187082181, 722226, 16562, 525701, 202355, 71108, 606717220428, 1476, 0, 0, 1, 3417254, 3751539, 20447897157, 3495643630, 2669827653, 3491306660, 763528, 19853152428, 76951732, 13415659749, 635300877715, 2462455443, 429301111987, 21231, 21252261, 212658, 206533, 19768, 119905326659]
def aw_n2 : List Int64 := [0, 0, 0, 0, 0, 0, 0, 0, 0, 0, 0, 0, 0, 25, 0, 0, 0, 0, 0, 0, 0, 0, 0, 0, 0, 0, 0, 0, 0, 0, 0, 0, 0, 0, 0, 0, 269950116]
def aw_cT (r : Nat) (wc bc sc ic cc dp rd : Int32) : am_C := .inl (1, [.ref (1006 + 4 * r), .int wc, .ref (1007 + 4 * r), .ref (1008 + 4 * r), .int bc, .int sc, .int ic, .int cc, .int dp, .int rd])
/-- the cells of a Told -/
def aw_TC (w : Nat → am_C) (r : Nat) (wc bc sc ic cc dp rd : Int32) (ws : List Value) (pc bw : List Int32) : Prop :=
  w (5 + 4 * r) = aw_cT r wc bc sc ic cc dp rd ∧ w (6 + 4 * r) = .inr (4, ws) ∧ w (7 + 4 * r) = am_I 0 pc ∧ w (8 + 4 * r) = am_I 0 bw ∧ ws.length = 120 ∧ pc.length = 576 ∧ bw.length = 120
def aw_Tok (w : Nat → am_C) (r : Nat) : Prop := ∃ (wc bc sc ic cc dp rd : Int32) (ws : List Value) (pc bw : List Int32), aw_TC w r wc bc sc ic cc dp rd ws pc bw
/-- what the reference keeps of the shields: words, how many, pictures, breaches, how many, counts -/
def aw_MC (w : Nat → am_C) (to ma pi br bk co : List Int32) : Prop :=
  w 26 = am_I 0 to ∧ w 27 = am_I 0 ma ∧ w 28 = am_I 0 pi ∧ w 29 = am_I 0 br ∧ w 30 = am_I 0 bk ∧ w 31 = am_I 0 co ∧ to.length = 360 ∧ ma.length = 3 ∧ pi.length = 1728 ∧ br.length = 120 ∧ bk.length = 3 ∧ co.length = 12
/-- a shield that was read: what the Told has is what the reference has of shield s -/
def aw_Rd (s : Nat) (to ma pi br bk co : List Int32) (wc bc sc ic cc dp : Int32) (ws : List Value) (pc bw : List Int32) : Prop :=
  ∃ (js : List Nat) (b : Nat), 1 ≤ js.length ∧ js.length ≤ 120 ∧ wc = Int32.ofNat js.length ∧ ma.getD s 0 = Int32.ofNat js.length ∧ (∀ k j, js[k]? = some j → j < 37 ∧ ws[k]? = some (.ref j) ∧ to.getD (120 * s + k) 0 = aw_tau j) ∧
    (∀ k, k < 576 → pc.getD k 0 = pi.getD (576 * s + k) 0) ∧ b ≤ 40 ∧ bc = Int32.ofNat b ∧ bk.getD s 0 = Int32.ofNat b ∧ (∀ k, k < b → bw.getD k 0 = br.getD (40 * s + k) 0) ∧
    sc = co.getD (4 * s) 0 ∧ ic = co.getD (4 * s + 1) 0 ∧ cc = co.getD (4 * s + 2) 0 ∧ dp = co.getD (4 * s + 3) 0 ∧ aw_pgl js ≤ 400
def aw_Sh (w : Nat → am_C) (r s : Nat) (to ma pi br bk co : List Int32) : Prop := ∃ (wc bc sc ic cc dp rd : Int32) (ws : List Value) (pc bw : List Int32), aw_TC w r wc bc sc ic cc dp rd ws pc bw ∧
  ((rd = 0 ∧ ma.getD s 0 = 0) ∨ (rd = 1 ∧ aw_Rd s to ma pi br bk co wc bc sc ic cc dp ws pc bw))
def aw_Shs (w : Nat → am_C) (sp : Nat) : Prop := ∃ (r0 r1 r2 : Nat) (to ma pi br bk co : List Int32), w 4 = .inr (5, [.ref (1005 + 4 * r0), .ref (1005 + 4 * r1), .ref (1005 + 4 * r2)]) ∧ (r0 < 4 ∧ r1 < 4 ∧ r2 < 4 ∧ sp < 4 ∧ r0 ≠ r1 ∧ r0 ≠ r2 ∧ r1 ≠ r2 ∧ sp ≠ r0 ∧ sp ≠ r1 ∧ sp ≠ r2) ∧
  aw_MC w to ma pi br bk co ∧ aw_Tok w sp ∧ aw_Sh w r0 0 to ma pi br bk co ∧ aw_Sh w r1 1 to ma pi br bk co ∧ aw_Sh w r2 2 to ma pi br bk co
/-- characters that can be typed -/
def aw_chr (x : Int32) : Prop := 32 ≤ x ∧ x ≤ 126
def aw_Txt (w : Nat → am_C) (tl : Nat) : Prop := ∃ tx mt : List Int32, w 2 = am_I 1 tx ∧ w 22 = am_I 0 mt ∧ tx.length = 120 ∧ mt.length = 120 ∧ tl ≤ 120 ∧ ∀ i, i < tl → tx.getD i 0 = mt.getD i 0 ∧ aw_chr (tx.getD i 0)
def aw_Pag (w : Nat → am_C) (pl : Nat) : Prop := ∃ pg mp : List Int32, w 3 = am_I 1 pg ∧ w 23 = am_I 0 mp ∧ pg.length = 480 ∧ mp.length = 400 ∧ pl ≤ 400 ∧ ∀ i, i < pl → pg.getD i 0 = mp.getD i 0 ∧ aw_chr (pg.getD i 0)
/-- a row of n ints at k -/
def aw_row (w : Nat → am_C) (k n : Nat) : Prop := ∃ l : List Int32, w k = am_I 0 l ∧ l.length = n
/-- the reference's names, and its rows for reading -/
def aw_Con (w : Nat → am_C) : Prop := w 24 = .inr (3, aw_n1.map Value.long) ∧ w 25 = .inr (3, aw_n2.map Value.long) ∧ aw_row w 32 120 ∧ aw_row w 33 300 ∧ aw_row w 34 300 ∧ aw_row w 35 40 ∧ aw_row w 36 80 ∧ aw_row w 37 40 ∧ aw_row w 38 40 ∧ aw_row w 39 160 ∧ aw_row w 40 160 ∧ aw_row w 41 160 ∧ aw_row w 42 160 ∧ aw_row w 43 160
def aw_Out (w : Nat → am_C) : Prop := ∃ v : Int64, w 44 = .inr (3, [.long v])
def aw_Inv (w : Nat → am_C) : Prop := ∃ (tl pl sp : Nat) (ft wd wt sn : Int32), w 1 = aw_c1 tl pl sp ∧ w 21 = aw_c21 ft (Int32.ofNat tl) (Int32.ofNat pl) wd wt sn ∧ aw_Txt w tl ∧ aw_Pag w pl ∧ aw_Shs w sp ∧ aw_Con w ∧ aw_Out w
theorem aw_TC_up {w : Nat → am_C} {k r : Nat} {c : am_C} {wc bc sc ic cc dp rd : Int32} {ws : List Value} {pc bw : List Int32} (hk : k < 5 + 4 * r ∨ 8 + 4 * r < k) (h : aw_TC w r wc bc sc ic cc dp rd ws pc bw) : aw_TC (am_pu w k c) r wc bc sc ic cc dp rd ws pc bw := by
  obtain ⟨h1, h2, h3, h4, h5⟩ := h
  exact ⟨by rw [am_pu_ne (by omega)]; exact h1, by rw [am_pu_ne (by omega)]; exact h2, by rw [am_pu_ne (by omega)]; exact h3, by rw [am_pu_ne (by omega)]; exact h4, h5⟩
theorem aw_Tok_up {w : Nat → am_C} {k r : Nat} {c : am_C} (hk : k < 5 + 4 * r ∨ 8 + 4 * r < k) (h : aw_Tok w r) : aw_Tok (am_pu w k c) r := by
  obtain ⟨wc, bc, sc, ic, cc, dp, rd, ws, pc, bw, h⟩ := h
  exact ⟨wc, bc, sc, ic, cc, dp, rd, ws, pc, bw, aw_TC_up hk h⟩
theorem aw_Sh_up {w : Nat → am_C} {k r s : Nat} {c : am_C} {to ma pi br bk co : List Int32} (hk : k < 5 + 4 * r ∨ 8 + 4 * r < k) (h : aw_Sh w r s to ma pi br bk co) : aw_Sh (am_pu w k c) r s to ma pi br bk co := by
  obtain ⟨wc, bc, sc, ic, cc, dp, rd, ws, pc, bw, h, h2⟩ := h
  exact ⟨wc, bc, sc, ic, cc, dp, rd, ws, pc, bw, aw_TC_up hk h, h2⟩
theorem aw_Shs_up {w : Nat → am_C} {k sp : Nat} {c : am_C} (hk : k < 4 ∨ (20 < k ∧ k < 26) ∨ 31 < k) (h : aw_Shs w sp) : aw_Shs (am_pu w k c) sp := by
  obtain ⟨r0, r1, r2, to, ma, pi, br, bk, co, h4, hp, ⟨m1, m2, m3, m4, m5, m6, m7⟩, hT, h0, h1, h2⟩ := h
  refine ⟨r0, r1, r2, to, ma, pi, br, bk, co, by rw [am_pu_ne (by omega)]; exact h4, hp, ⟨by rw [am_pu_ne (by omega)]; exact m1, by rw [am_pu_ne (by omega)]; exact m2, by rw [am_pu_ne (by omega)]; exact m3, by rw [am_pu_ne (by omega)]; exact m4, by rw [am_pu_ne (by omega)]; exact m5, by rw [am_pu_ne (by omega)]; exact m6, m7⟩, aw_Tok_up (by omega) hT, aw_Sh_up (by omega) h0, aw_Sh_up (by omega) h1, aw_Sh_up (by omega) h2⟩
end
section
/-! Short methods of both sides: length, wipe, type, charAt, thrown. -/
theorem aw_k5 {w : Nat → am_C} {g : am_H} (d : Nat) {tl pl sp : Nat} (h1 : w 1 = aw_c1 tl pl sp) : am_R d 5 0 [some (.ref 1001)] [] (am_h w g) (.inl (some (.int (Int32.ofNat pl)))) (am_h w g) := by
  refine am_R.nxs 1 (pc' := 1) (lv' := [some (.ref 1001)]) (st' := [.ref 1001]) (h1 := am_h w g) rfl ?_
  refine am_R.gf (pc' := 4) (v := .int (Int32.ofNat pl)) rfl (am_wf 1 (by decide) h1) rfl rfl rfl ?_
  exact am_R.reti rfl rfl rfl
theorem aw_k148 {w : Nat → am_C} {g : am_H} (d : Nat) {ft ty wr wd wt sn : Int32} (h21 : w 21 = aw_c21 ft ty wr wd wt sn) : am_R d 148 0 [some (.ref 1021)] [] (am_h w g) (.inl (some (.int wr))) (am_h (am_pu w 21 (aw_c21 0 ty wr wd wt sn)) g) := by
  refine am_R.nxs 2 (pc' := 2) (lv' := [some (.ref 1021)]) (st' := [.int 0, .ref 1021]) (h1 := am_h w g) rfl ?_
  refine am_R.pf (k := 0) (pc' := 5) rfl (am_wf 21 (by decide) h21) rfl (Nat.le_of_ble_eq_true rfl) rfl (fun q => by cases q) (am_ws (k := 21) (by decide) (by decide)) rfl ?_
  refine am_R.nxs 1 (pc' := 6) (lv' := [some (.ref 1021)]) (st' := [.ref 1021]) (h1 := am_h (am_pu w 21 (aw_c21 0 ty wr wd wt sn)) g) rfl ?_
  refine am_R.gf (pc' := 9) (v := .int wr) rfl (am_wf 21 (by decide) (rfl : (am_pu w 21 (aw_c21 0 ty wr wd wt sn)) 21 = _)) rfl rfl rfl ?_
  exact am_R.reti rfl rfl rfl
theorem aw_k95 {w : Nat → am_C} {g : am_H} (d : Nat) {ft ty wr wd wt sn : Int32} (h21 : w 21 = aw_c21 ft ty wr wd wt sn) : am_R d 95 0 [some (.ref 1021)] [] (am_h w g) (.inl (some (.int ft))) (am_h w g) := by
  refine am_R.nxs 1 (pc' := 1) (lv' := [some (.ref 1021)]) (st' := [.ref 1021]) (h1 := am_h w g) rfl ?_
  refine am_R.gf (pc' := 4) (v := .int ft) rfl (am_wf 21 (by decide) h21) rfl rfl rfl ?_
  exact am_R.reti rfl rfl rfl
theorem aw_k4 {w : Nat → am_C} {g : am_H} (d : Nat) {tl pl sp : Nat} (h1 : w 1 = aw_c1 tl pl sp) : am_R d 4 0 [some (.ref 1001), none] [] (am_h w g) (.inl (some (.int (Int32.ofNat tl)))) (am_h (am_pu w 1 (aw_c1 0 pl sp)) g) := by
  refine am_R.nxs 1 (pc' := 1) (lv' := [some (.ref 1001), none]) (st' := [.ref 1001]) (h1 := am_h w g) rfl ?_
  refine am_R.gf (pc' := 4) (v := .int (Int32.ofNat tl)) rfl (am_wf 1 (by decide) h1) rfl rfl rfl ?_
  refine am_R.nxs 3 (pc' := 7) (lv' := [some (.ref 1001), some (.int (Int32.ofNat tl))]) (st' := [.int 0, .ref 1001]) (h1 := am_h w g) rfl ?_
  refine am_R.pf (k := 1) (pc' := 10) rfl (am_wf 1 (by decide) h1) rfl (Nat.le_of_ble_eq_true rfl) rfl (fun q => by cases q) (am_ws (k := 1) (by decide) (by decide)) rfl ?_
  refine am_R.nxs 1 (pc' := 11) (lv' := [some (.ref 1001), some (.int (Int32.ofNat tl))]) (st' := [.int (Int32.ofNat tl)]) (h1 := am_h (am_pu w 1 (aw_c1 0 pl sp)) g) rfl ?_
  exact am_R.reti rfl rfl rfl
theorem aw_k97 {w : Nat → am_C} {g : am_H} (d : Nat) {ft ty wr wd wt sn : Int32} (h21 : w 21 = aw_c21 ft ty wr wd wt sn) : am_R d 97 0 [some (.ref 1021), none] [] (am_h w g) (.inl (some (.int ty))) (am_h (am_pu w 21 (aw_c21 0 0 wr wd wt sn)) g) := by
  refine am_R.nxs 2 (pc' := 2) (lv' := [some (.ref 1021), none]) (st' := [.int 0, .ref 1021]) (h1 := am_h w g) rfl ?_
  refine am_R.pf (k := 0) (pc' := 5) rfl (am_wf 21 (by decide) h21) rfl (Nat.le_of_ble_eq_true rfl) rfl (fun q => by cases q) (am_ws (k := 21) (by decide) (by decide)) rfl ?_
  refine am_R.nxs 1 (pc' := 6) (lv' := [some (.ref 1021), none]) (st' := [.ref 1021]) (h1 := am_h (am_pu w 21 (aw_c21 0 ty wr wd wt sn)) g) rfl ?_
  refine am_R.gf (pc' := 9) (v := .int ty) rfl (am_wf 21 (by decide) (rfl : (am_pu w 21 (aw_c21 0 ty wr wd wt sn)) 21 = _)) rfl rfl rfl ?_
  refine am_R.nxs 3 (pc' := 12) (lv' := [some (.ref 1021), some (.int ty)]) (st' := [.int 0, .ref 1021]) (h1 := am_h (am_pu w 21 (aw_c21 0 ty wr wd wt sn)) g) rfl ?_
  refine am_R.pf (k := 1) (pc' := 15) rfl (am_wf 21 (by decide) (rfl : (am_pu w 21 (aw_c21 0 ty wr wd wt sn)) 21 = _)) rfl (Nat.le_of_ble_eq_true rfl) rfl (fun q => by cases q) (am_wsE (k := 21) (w' := (am_pu w 21 (aw_c21 0 0 wr wd wt sn))) (by decide) (by decide) (by funext j; simp only [am_pu]; (repeat' split) <;> first | rfl | omega)) rfl ?_
  refine am_R.nxs 1 (pc' := 16) (lv' := [some (.ref 1021), some (.int ty)]) (st' := [.int ty]) (h1 := am_h (am_pu w 21 (aw_c21 0 0 wr wd wt sn)) g) rfl ?_
  exact am_R.reti rfl rfl rfl
theorem aw_k6a {w : Nat → am_C} {g : am_H} (d : Nat) {tl pl sp : Nat} (h1 : w 1 = aw_c1 tl pl sp) {pg : List Int32} (h3 : w 3 = am_I 1 pg) (hl : pg.length = 480) (hp : pl ≤ 480) (i : Nat) (hi : i < pl) (hfit : ∀ k, k < pl → fits .char (.int (pg.getD k 0)) = true) : am_R d 6 0 [some (.ref 1001), some (.int (Int32.ofNat i))] [] (am_h w g) (.inl (some (.int (pg.getD i 0)))) (am_h w g) := by
  refine am_R.ites 2 (P := Int32.ofNat i < 0) (T := 21) (F := 4) (lv' := [some (.ref 1001), some (.int (Int32.ofNat i))]) (st' := []) (h1 := am_h w g) rfl (fun c1 => ?_) (fun c1 => ?_)
  · have c1 : i < 0 := (am_ltN (i := i) (n := 0) (by omega) (by omega)).mp c1
    omega
  · have c1 : ¬ i < 0 := fun hq9 => c1 ((am_ltN (i := i) (n := 0) (by omega) (by omega)).mpr hq9)
    refine am_R.nxs 2 (pc' := 6) (lv' := [some (.ref 1001), some (.int (Int32.ofNat i))]) (st' := [.ref 1001, .int (Int32.ofNat i)]) (h1 := am_h w g) rfl ?_
    refine am_R.gf (pc' := 9) (v := .int (Int32.ofNat pl)) rfl (am_wf 1 (by decide) h1) rfl rfl rfl ?_
    refine am_R.ites 1 (P := Int32.ofNat pl ≤ Int32.ofNat i) (T := 21) (F := 12) (lv' := [some (.ref 1001), some (.int (Int32.ofNat i))]) (st' := []) (h1 := am_h w g) rfl (fun c2 => ?_) (fun c2 => ?_)
    · have c2 : pl ≤ i := (am_leN (i := pl) (n := i) (by omega) (by omega)).mp c2
      omega
    · have c2 : ¬ pl ≤ i := fun hq9 => c2 ((am_leN (i := pl) (n := i) (by omega) (by omega)).mpr hq9)
      refine am_R.nxs 1 (pc' := 13) (lv' := [some (.ref 1001), some (.int (Int32.ofNat i))]) (st' := [.ref 1001]) (h1 := am_h w g) rfl ?_
      refine am_R.gf (pc' := 16) (v := .ref 1003) rfl (am_wf 1 (by decide) h1) rfl rfl rfl ?_
      refine am_R.nxs 1 (pc' := 17) (lv' := [some (.ref 1001), some (.int (Int32.ofNat i))]) (st' := [.int (Int32.ofNat i), .ref 1003]) (h1 := am_h w g) rfl ?_
      refine am_R.ldc (i := i) (xs := pg) (pc' := 18) rfl (am_wf 3 (by decide) h3) (by omega) (by omega) rfl ?_
      refine am_R.nxs 1 (pc' := 23) (lv' := [some (.ref 1001), some (.int (Int32.ofNat i))]) (st' := [.int (pg.getD i 0)]) (h1 := am_h w g) rfl ?_
      exact am_R.reti rfl rfl (hfit _ (by omega))
theorem aw_k6b {w : Nat → am_C} {g : am_H} (d : Nat) {tl pl sp : Nat} (h1 : w 1 = aw_c1 tl pl sp) (v : Int32) (hv : v < 0 ∨ Int32.ofNat pl ≤ v) : am_R d 6 0 [some (.ref 1001), some (.int v)] [] (am_h w g) (.inl (some (.int 32))) (am_h w g) := by
  refine am_R.ites 2 (P := v < 0) (T := 21) (F := 4) (lv' := [some (.ref 1001), some (.int v)]) (st' := []) (h1 := am_h w g) rfl (fun c1 => ?_) (fun c1 => ?_)
  · refine am_R.nxs 1 (pc' := 23) (lv' := [some (.ref 1001), some (.int v)]) (st' := [.int 32]) (h1 := am_h w g) rfl ?_
    exact am_R.reti rfl rfl rfl
  · refine am_R.nxs 2 (pc' := 6) (lv' := [some (.ref 1001), some (.int v)]) (st' := [.ref 1001, .int v]) (h1 := am_h w g) rfl ?_
    refine am_R.gf (pc' := 9) (v := .int (Int32.ofNat pl)) rfl (am_wf 1 (by decide) h1) rfl rfl rfl ?_
    refine am_R.ites 1 (P := Int32.ofNat pl ≤ v) (T := 21) (F := 12) (lv' := [some (.ref 1001), some (.int v)]) (st' := []) (h1 := am_h w g) rfl (fun c2 => ?_) (fun c2 => ?_)
    · refine am_R.nxs 1 (pc' := 23) (lv' := [some (.ref 1001), some (.int v)]) (st' := [.int 32]) (h1 := am_h w g) rfl ?_
      exact am_R.reti rfl rfl rfl
    · exact absurd hv (fun q => q.elim c1 c2)
theorem aw_k3a {w : Nat → am_C} {g : am_H} (d : Nat) {tl pl sp : Nat} (h1 : w 1 = aw_c1 tl pl sp) {tx : List Int32} (h2 : w 2 = am_I 1 tx) (hl : tx.length = 120) (c : Int32) (ha : ¬ c < 32) (hb : ¬ 126 < c) (ht : tl < 120) (hc1 : 0 ≤ c) (hc2 : c ≤ 65535) : am_R d 3 0 [some (.ref 1001), some (.int c)] [] (am_h w g) (.inl (some (.int 1))) (am_h (am_pu (am_pu w 2 (am_I 1 (tx.set tl c))) 1 (aw_c1 (tl + 1) pl sp)) g) := by
  refine am_R.ites 3 (P := c < 32) (T := 21) (F := 6) (lv' := [some (.ref 1001), some (.int c)]) (st' := []) (h1 := am_h w g) rfl (fun c1 => ?_) (fun c1 => ?_)
  · exact absurd c1 ha
  · refine am_R.ites 3 (P := 126 < c) (T := 21) (F := 12) (lv' := [some (.ref 1001), some (.int c)]) (st' := []) (h1 := am_h w g) rfl (fun c2 => ?_) (fun c2 => ?_)
    · exact absurd c2 hb
    · refine am_R.nxs 1 (pc' := 13) (lv' := [some (.ref 1001), some (.int c)]) (st' := [.ref 1001]) (h1 := am_h w g) rfl ?_
      refine am_R.gf (pc' := 16) (v := .int (Int32.ofNat tl)) rfl (am_wf 1 (by decide) h1) rfl rfl rfl ?_
      refine am_R.ites 2 (P := Int32.ofNat tl < 120) (T := 23) (F := 21) (lv' := [some (.ref 1001), some (.int c)]) (st' := []) (h1 := am_h w g) rfl (fun c3 => ?_) (fun c3 => ?_)
      · have c3 : tl < 120 := (am_ltN (i := tl) (n := 120) (by omega) (by omega)).mp c3
        refine am_R.nxs 1 (pc' := 24) (lv' := [some (.ref 1001), some (.int c)]) (st' := [.ref 1001]) (h1 := am_h w g) rfl ?_
        refine am_R.gf (pc' := 27) (v := .ref 1002) rfl (am_wf 1 (by decide) h1) rfl rfl rfl ?_
        refine am_R.nxs 1 (pc' := 28) (lv' := [some (.ref 1001), some (.int c)]) (st' := [.ref 1001, .ref 1002]) (h1 := am_h w g) rfl ?_
        refine am_R.gf (pc' := 31) (v := .int (Int32.ofNat tl)) rfl (am_wf 1 (by decide) h1) rfl rfl rfl ?_
        refine am_R.nxs 1 (pc' := 32) (lv' := [some (.ref 1001), some (.int c)]) (st' := [.int c, .int (Int32.ofNat tl), .ref 1002]) (h1 := am_h w g) rfl ?_
        refine am_R.stc (i := tl) (xs := tx) (pc' := 33) rfl (am_wf 2 (by decide) h2) (by omega) (by omega) (⟨hc1, hc2⟩) (am_ws (k := 2) (by decide) (by decide)) rfl ?_
        refine am_R.nxs 2 (pc' := 35) (lv' := [some (.ref 1001), some (.int c)]) (st' := [.ref 1001, .ref 1001]) (h1 := am_h (am_pu w 2 (am_I 1 (tx.set tl c))) g) rfl ?_
        refine am_R.gf (pc' := 38) (v := .int (Int32.ofNat tl)) rfl (am_wf 1 (by decide) h1) rfl rfl rfl ?_
        refine am_R.nxs 2 (pc' := 40) (lv' := [some (.ref 1001), some (.int c)]) (st' := [.int (Int32.ofNat tl + 1), .ref 1001]) (h1 := am_h (am_pu w 2 (am_I 1 (tx.set tl c))) g) rfl ?_
        rw [show (Int32.ofNat tl + 1 : Int32) = Int32.ofNat (tl + 1) from am_add tl 1]
        refine am_R.pf (k := 1) (pc' := 43) rfl (am_wf 1 (by decide) h1) rfl (Nat.le_of_ble_eq_true rfl) rfl (fun q => by cases q) (am_ws (k := 1) (by decide) (by decide)) rfl ?_
        refine am_R.nxs 1 (pc' := 44) (lv' := [some (.ref 1001), some (.int c)]) (st' := [.int 1]) (h1 := am_h (am_pu (am_pu w 2 (am_I 1 (tx.set tl c))) 1 (aw_c1 (tl + 1) pl sp)) g) rfl ?_
        exact am_R.reti rfl rfl rfl
      · have c3 : ¬ tl < 120 := fun hq9 => c3 ((am_ltN (i := tl) (n := 120) (by omega) (by omega)).mpr hq9)
        omega
theorem aw_k3b {w : Nat → am_C} {g : am_H} (d : Nat) {tl pl sp : Nat} (h1 : w 1 = aw_c1 tl pl sp) (c : Int32) (hn : c < 32 ∨ 126 < c ∨ 120 ≤ tl) (ht : tl ≤ 120) : am_R d 3 0 [some (.ref 1001), some (.int c)] [] (am_h w g) (.inl (some (.int 0))) (am_h w g) := by
  refine am_R.ites 3 (P := c < 32) (T := 21) (F := 6) (lv' := [some (.ref 1001), some (.int c)]) (st' := []) (h1 := am_h w g) rfl (fun c1 => ?_) (fun c1 => ?_)
  · refine am_R.nxs 1 (pc' := 22) (lv' := [some (.ref 1001), some (.int c)]) (st' := [.int 0]) (h1 := am_h w g) rfl ?_
    exact am_R.reti rfl rfl rfl
  · refine am_R.ites 3 (P := 126 < c) (T := 21) (F := 12) (lv' := [some (.ref 1001), some (.int c)]) (st' := []) (h1 := am_h w g) rfl (fun c2 => ?_) (fun c2 => ?_)
    · refine am_R.nxs 1 (pc' := 22) (lv' := [some (.ref 1001), some (.int c)]) (st' := [.int 0]) (h1 := am_h w g) rfl ?_
      exact am_R.reti rfl rfl rfl
    · refine am_R.nxs 1 (pc' := 13) (lv' := [some (.ref 1001), some (.int c)]) (st' := [.ref 1001]) (h1 := am_h w g) rfl ?_
      refine am_R.gf (pc' := 16) (v := .int (Int32.ofNat tl)) rfl (am_wf 1 (by decide) h1) rfl rfl rfl ?_
      refine am_R.ites 2 (P := Int32.ofNat tl < 120) (T := 23) (F := 21) (lv' := [some (.ref 1001), some (.int c)]) (st' := []) (h1 := am_h w g) rfl (fun c3 => ?_) (fun c3 => ?_)
      · have c3 : tl < 120 := (am_ltN (i := tl) (n := 120) (by omega) (by omega)).mp c3
        exact absurd hn (fun q => q.elim c1 (fun q => q.elim c2 (fun q => by omega)))
      · have c3 : ¬ tl < 120 := fun hq9 => c3 ((am_ltN (i := tl) (n := 120) (by omega) (by omega)).mpr hq9)
        refine am_R.nxs 1 (pc' := 22) (lv' := [some (.ref 1001), some (.int c)]) (st' := [.int 0]) (h1 := am_h w g) rfl ?_
        exact am_R.reti rfl rfl rfl
theorem aw_k96a {w : Nat → am_C} {g : am_H} (d : Nat) {tl pl : Nat} {ft wd wt sn : Int32} (h21 : w 21 = aw_c21 ft (Int32.ofNat tl) (Int32.ofNat pl) wd wt sn) {mt : List Int32} (h22 : w 22 = am_I 0 mt) (hl : mt.length = 120) (c : Int32) (ha : ¬ c < 32) (hb : ¬ 126 < c) (ht : tl < 120) : am_R d 96 0 [some (.ref 1021), some (.int c)] [] (am_h w g) (.inl (some (.int 1))) (am_h (am_pu (am_pu w 21 (aw_c21 0 (Int32.ofNat (tl + 1)) (Int32.ofNat pl) wd wt sn)) 22 (am_I 0 (mt.set tl c))) g) := by
  refine am_R.nxs 2 (pc' := 2) (lv' := [some (.ref 1021), some (.int c)]) (st' := [.int 0, .ref 1021]) (h1 := am_h w g) rfl ?_
  refine am_R.pf (k := 0) (pc' := 5) rfl (am_wf 21 (by decide) h21) rfl (Nat.le_of_ble_eq_true rfl) rfl (fun q => by cases q) (am_ws (k := 21) (by decide) (by decide)) rfl ?_
  refine am_R.ites 3 (P := c < 32) (T := 26) (F := 11) (lv' := [some (.ref 1021), some (.int c)]) (st' := []) (h1 := am_h (am_pu w 21 (aw_c21 0 (Int32.ofNat tl) (Int32.ofNat pl) wd wt sn)) g) rfl (fun c1 => ?_) (fun c1 => ?_)
  · exact absurd c1 ha
  · refine am_R.ites 3 (P := 126 < c) (T := 26) (F := 17) (lv' := [some (.ref 1021), some (.int c)]) (st' := []) (h1 := am_h (am_pu w 21 (aw_c21 0 (Int32.ofNat tl) (Int32.ofNat pl) wd wt sn)) g) rfl (fun c2 => ?_) (fun c2 => ?_)
    · exact absurd c2 hb
    · refine am_R.nxs 1 (pc' := 18) (lv' := [some (.ref 1021), some (.int c)]) (st' := [.ref 1021]) (h1 := am_h (am_pu w 21 (aw_c21 0 (Int32.ofNat tl) (Int32.ofNat pl) wd wt sn)) g) rfl ?_
      refine am_R.gf (pc' := 21) (v := .int (Int32.ofNat tl)) rfl (am_wf 21 (by decide) (rfl : (am_pu w 21 (aw_c21 0 (Int32.ofNat tl) (Int32.ofNat pl) wd wt sn)) 21 = _)) rfl rfl rfl ?_
      refine am_R.ites 2 (P := ¬ Int32.ofNat tl = 120) (T := 28) (F := 26) (lv' := [some (.ref 1021), some (.int c)]) (st' := []) (h1 := am_h (am_pu w 21 (aw_c21 0 (Int32.ofNat tl) (Int32.ofNat pl) wd wt sn)) g) rfl (fun c3 => ?_) (fun c3 => ?_)
      · have c3 : ¬ tl = 120 := fun hq9 => c3 ((am_eqN (i := tl) (n := 120) (by omega) (by omega)).mpr hq9)
        refine am_R.nxs 1 (pc' := 29) (lv' := [some (.ref 1021), some (.int c)]) (st' := [.ref 1021]) (h1 := am_h (am_pu w 21 (aw_c21 0 (Int32.ofNat tl) (Int32.ofNat pl) wd wt sn)) g) rfl ?_
        refine am_R.gf (pc' := 32) (v := .ref 1022) rfl (am_wf 21 (by decide) (rfl : (am_pu w 21 (aw_c21 0 (Int32.ofNat tl) (Int32.ofNat pl) wd wt sn)) 21 = _)) rfl rfl rfl ?_
        refine am_R.nxs 1 (pc' := 33) (lv' := [some (.ref 1021), some (.int c)]) (st' := [.ref 1021, .ref 1022]) (h1 := am_h (am_pu w 21 (aw_c21 0 (Int32.ofNat tl) (Int32.ofNat pl) wd wt sn)) g) rfl ?_
        refine am_R.gf (pc' := 36) (v := .int (Int32.ofNat tl)) rfl (am_wf 21 (by decide) (rfl : (am_pu w 21 (aw_c21 0 (Int32.ofNat tl) (Int32.ofNat pl) wd wt sn)) 21 = _)) rfl rfl rfl ?_
        refine am_R.nxs 1 (pc' := 37) (lv' := [some (.ref 1021), some (.int c)]) (st' := [.int c, .int (Int32.ofNat tl), .ref 1022]) (h1 := am_h (am_pu w 21 (aw_c21 0 (Int32.ofNat tl) (Int32.ofNat pl) wd wt sn)) g) rfl ?_
        refine am_R.sti (i := tl) (xs := mt) (pc' := 38) rfl (am_wf 22 (by decide) h22) (by omega) (by omega) (am_ws (k := 22) (by decide) (by decide)) rfl ?_
        refine am_R.nxs 2 (pc' := 40) (lv' := [some (.ref 1021), some (.int c)]) (st' := [.ref 1021, .ref 1021]) (h1 := am_h (am_pu (am_pu w 21 (aw_c21 0 (Int32.ofNat tl) (Int32.ofNat pl) wd wt sn)) 22 (am_I 0 (mt.set tl c))) g) rfl ?_
        refine am_R.gf (pc' := 43) (v := .int (Int32.ofNat tl)) rfl (am_wf 21 (by decide) (rfl : (am_pu w 21 (aw_c21 0 (Int32.ofNat tl) (Int32.ofNat pl) wd wt sn)) 21 = _)) rfl rfl rfl ?_
        refine am_R.nxs 2 (pc' := 45) (lv' := [some (.ref 1021), some (.int c)]) (st' := [.int (Int32.ofNat tl + 1), .ref 1021]) (h1 := am_h (am_pu (am_pu w 21 (aw_c21 0 (Int32.ofNat tl) (Int32.ofNat pl) wd wt sn)) 22 (am_I 0 (mt.set tl c))) g) rfl ?_
        rw [show (Int32.ofNat tl + 1 : Int32) = Int32.ofNat (tl + 1) from am_add tl 1]
        refine am_R.pf (k := 1) (pc' := 48) rfl (am_wf 21 (by decide) (rfl : (am_pu w 21 (aw_c21 0 (Int32.ofNat tl) (Int32.ofNat pl) wd wt sn)) 21 = _)) rfl (Nat.le_of_ble_eq_true rfl) rfl (fun q => by cases q) (am_wsE (k := 21) (w' := (am_pu (am_pu w 21 (aw_c21 0 (Int32.ofNat (tl + 1)) (Int32.ofNat pl) wd wt sn)) 22 (am_I 0 (mt.set tl c)))) (by decide) (by decide) (by funext j; simp only [am_pu]; (repeat' split) <;> first | rfl | omega)) rfl ?_
        refine am_R.nxs 1 (pc' := 49) (lv' := [some (.ref 1021), some (.int c)]) (st' := [.int 1]) (h1 := am_h (am_pu (am_pu w 21 (aw_c21 0 (Int32.ofNat (tl + 1)) (Int32.ofNat pl) wd wt sn)) 22 (am_I 0 (mt.set tl c))) g) rfl ?_
        exact am_R.reti rfl rfl rfl
      · have c3 : tl = 120 := (am_eqN (i := tl) (n := 120) (by omega) (by omega)).mp (Decidable.not_not.mp c3)
        omega
theorem aw_k96b {w : Nat → am_C} {g : am_H} (d : Nat) {tl pl : Nat} {ft wd wt sn : Int32} (h21 : w 21 = aw_c21 ft (Int32.ofNat tl) (Int32.ofNat pl) wd wt sn) (c : Int32) (hn : c < 32 ∨ 126 < c ∨ 120 ≤ tl) (ht : tl ≤ 120) : am_R d 96 0 [some (.ref 1021), some (.int c)] [] (am_h w g) (.inl (some (.int 0))) (am_h (am_pu w 21 (aw_c21 0 (Int32.ofNat tl) (Int32.ofNat pl) wd wt sn)) g) := by
  refine am_R.nxs 2 (pc' := 2) (lv' := [some (.ref 1021), some (.int c)]) (st' := [.int 0, .ref 1021]) (h1 := am_h w g) rfl ?_
  refine am_R.pf (k := 0) (pc' := 5) rfl (am_wf 21 (by decide) h21) rfl (Nat.le_of_ble_eq_true rfl) rfl (fun q => by cases q) (am_ws (k := 21) (by decide) (by decide)) rfl ?_
  refine am_R.ites 3 (P := c < 32) (T := 26) (F := 11) (lv' := [some (.ref 1021), some (.int c)]) (st' := []) (h1 := am_h (am_pu w 21 (aw_c21 0 (Int32.ofNat tl) (Int32.ofNat pl) wd wt sn)) g) rfl (fun c1 => ?_) (fun c1 => ?_)
  · refine am_R.nxs 1 (pc' := 27) (lv' := [some (.ref 1021), some (.int c)]) (st' := [.int 0]) (h1 := am_h (am_pu w 21 (aw_c21 0 (Int32.ofNat tl) (Int32.ofNat pl) wd wt sn)) g) rfl ?_
    exact am_R.reti rfl rfl rfl
  · refine am_R.ites 3 (P := 126 < c) (T := 26) (F := 17) (lv' := [some (.ref 1021), some (.int c)]) (st' := []) (h1 := am_h (am_pu w 21 (aw_c21 0 (Int32.ofNat tl) (Int32.ofNat pl) wd wt sn)) g) rfl (fun c2 => ?_) (fun c2 => ?_)
    · refine am_R.nxs 1 (pc' := 27) (lv' := [some (.ref 1021), some (.int c)]) (st' := [.int 0]) (h1 := am_h (am_pu w 21 (aw_c21 0 (Int32.ofNat tl) (Int32.ofNat pl) wd wt sn)) g) rfl ?_
      exact am_R.reti rfl rfl rfl
    · refine am_R.nxs 1 (pc' := 18) (lv' := [some (.ref 1021), some (.int c)]) (st' := [.ref 1021]) (h1 := am_h (am_pu w 21 (aw_c21 0 (Int32.ofNat tl) (Int32.ofNat pl) wd wt sn)) g) rfl ?_
      refine am_R.gf (pc' := 21) (v := .int (Int32.ofNat tl)) rfl (am_wf 21 (by decide) (rfl : (am_pu w 21 (aw_c21 0 (Int32.ofNat tl) (Int32.ofNat pl) wd wt sn)) 21 = _)) rfl rfl rfl ?_
      refine am_R.ites 2 (P := ¬ Int32.ofNat tl = 120) (T := 28) (F := 26) (lv' := [some (.ref 1021), some (.int c)]) (st' := []) (h1 := am_h (am_pu w 21 (aw_c21 0 (Int32.ofNat tl) (Int32.ofNat pl) wd wt sn)) g) rfl (fun c3 => ?_) (fun c3 => ?_)
      · have c3 : ¬ tl = 120 := fun hq9 => c3 ((am_eqN (i := tl) (n := 120) (by omega) (by omega)).mpr hq9)
        exact absurd hn (fun q => q.elim c1 (fun q => q.elim c2 (fun q => by omega)))
      · have c3 : tl = 120 := (am_eqN (i := tl) (n := 120) (by omega) (by omega)).mp (Decidable.not_not.mp c3)
        refine am_R.nxs 1 (pc' := 27) (lv' := [some (.ref 1021), some (.int c)]) (st' := [.int 0]) (h1 := am_h (am_pu w 21 (aw_c21 0 (Int32.ofNat tl) (Int32.ofNat pl) wd wt sn)) g) rfl ?_
        exact am_R.reti rfl rfl rfl
theorem aw_k149a {w : Nat → am_C} {g : am_H} (d : Nat) {tl pl : Nat} {ft wd wt sn : Int32} (h21 : w 21 = aw_c21 ft (Int32.ofNat tl) (Int32.ofNat pl) wd wt sn) {mp : List Int32} (h23 : w 23 = am_I 0 mp) (hl : mp.length = 400) (hp : pl ≤ 400) (i : Nat) (hi : i < pl) (hfit : ∀ k, k < pl → ((mp.getD k 0).toUInt32 % 65536).toInt32 = mp.getD k 0 ∧ fits .char (.int (mp.getD k 0)) = true) : am_R d 149 0 [some (.ref 1021), some (.int (Int32.ofNat i))] [] (am_h w g) (.inl (some (.int (mp.getD i 0)))) (am_h (am_pu w 21 (aw_c21 0 (Int32.ofNat tl) (Int32.ofNat pl) wd wt sn)) g) := by
  refine am_R.nxs 2 (pc' := 2) (lv' := [some (.ref 1021), some (.int (Int32.ofNat i))]) (st' := [.int 0, .ref 1021]) (h1 := am_h w g) rfl ?_
  refine am_R.pf (k := 0) (pc' := 5) rfl (am_wf 21 (by decide) h21) rfl (Nat.le_of_ble_eq_true rfl) rfl (fun q => by cases q) (am_ws (k := 21) (by decide) (by decide)) rfl ?_
  refine am_R.ites 2 (P := Int32.ofNat i < 0) (T := 17) (F := 9) (lv' := [some (.ref 1021), some (.int (Int32.ofNat i))]) (st' := []) (h1 := am_h (am_pu w 21 (aw_c21 0 (Int32.ofNat tl) (Int32.ofNat pl) wd wt sn)) g) rfl (fun c1 => ?_) (fun c1 => ?_)
  · have c1 : i < 0 := (am_ltN (i := i) (n := 0) (by omega) (by omega)).mp c1
    omega
  · have c1 : ¬ i < 0 := fun hq9 => c1 ((am_ltN (i := i) (n := 0) (by omega) (by omega)).mpr hq9)
    refine am_R.nxs 2 (pc' := 11) (lv' := [some (.ref 1021), some (.int (Int32.ofNat i))]) (st' := [.ref 1021, .int (Int32.ofNat i)]) (h1 := am_h (am_pu w 21 (aw_c21 0 (Int32.ofNat tl) (Int32.ofNat pl) wd wt sn)) g) rfl ?_
    refine am_R.gf (pc' := 14) (v := .int (Int32.ofNat pl)) rfl (am_wf 21 (by decide) (rfl : (am_pu w 21 (aw_c21 0 (Int32.ofNat tl) (Int32.ofNat pl) wd wt sn)) 21 = _)) rfl rfl rfl ?_
    refine am_R.ites 1 (P := Int32.ofNat i < Int32.ofNat pl) (T := 22) (F := 17) (lv' := [some (.ref 1021), some (.int (Int32.ofNat i))]) (st' := []) (h1 := am_h (am_pu w 21 (aw_c21 0 (Int32.ofNat tl) (Int32.ofNat pl) wd wt sn)) g) rfl (fun c2 => ?_) (fun c2 => ?_)
    · have c2 : i < pl := (am_ltN (i := i) (n := pl) (by omega) (by omega)).mp c2
      refine am_R.nxs 1 (pc' := 23) (lv' := [some (.ref 1021), some (.int (Int32.ofNat i))]) (st' := [.ref 1021]) (h1 := am_h (am_pu w 21 (aw_c21 0 (Int32.ofNat tl) (Int32.ofNat pl) wd wt sn)) g) rfl ?_
      refine am_R.gf (pc' := 26) (v := .ref 1023) rfl (am_wf 21 (by decide) (rfl : (am_pu w 21 (aw_c21 0 (Int32.ofNat tl) (Int32.ofNat pl) wd wt sn)) 21 = _)) rfl rfl rfl ?_
      refine am_R.nxs 1 (pc' := 27) (lv' := [some (.ref 1021), some (.int (Int32.ofNat i))]) (st' := [.int (Int32.ofNat i), .ref 1023]) (h1 := am_h (am_pu w 21 (aw_c21 0 (Int32.ofNat tl) (Int32.ofNat pl) wd wt sn)) g) rfl ?_
      refine am_R.ldi (i := i) (xs := mp) (pc' := 28) rfl (am_wf 23 (by decide) h23) (by omega) (by omega) rfl ?_
      refine am_R.nxs 1 (pc' := 29) (lv' := [some (.ref 1021), some (.int (Int32.ofNat i))]) (st' := [.int ((((mp.getD i 0)).toUInt32 % 65536).toInt32)]) (h1 := am_h (am_pu w 21 (aw_c21 0 (Int32.ofNat tl) (Int32.ofNat pl) wd wt sn)) g) rfl ?_
      rw [(hfit i hi).1]
      exact am_R.reti rfl rfl (hfit i hi).2
    · have c2 : ¬ i < pl := fun hq9 => c2 ((am_ltN (i := i) (n := pl) (by omega) (by omega)).mpr hq9)
      omega
theorem aw_k149b {w : Nat → am_C} {g : am_H} (d : Nat) {tl pl : Nat} {ft wd wt sn : Int32} (h21 : w 21 = aw_c21 ft (Int32.ofNat tl) (Int32.ofNat pl) wd wt sn) (v : Int32) (hv : v < 0 ∨ Int32.ofNat pl ≤ v) : am_R d 149 0 [some (.ref 1021), some (.int v)] [] (am_h w g) (.inl (some (.int 32))) (am_h (am_pu w 21 (aw_c21 0 (Int32.ofNat tl) (Int32.ofNat pl) wd wt sn)) g) := by
  refine am_R.nxs 2 (pc' := 2) (lv' := [some (.ref 1021), some (.int v)]) (st' := [.int 0, .ref 1021]) (h1 := am_h w g) rfl ?_
  refine am_R.pf (k := 0) (pc' := 5) rfl (am_wf 21 (by decide) h21) rfl (Nat.le_of_ble_eq_true rfl) rfl (fun q => by cases q) (am_ws (k := 21) (by decide) (by decide)) rfl ?_
  refine am_R.ites 2 (P := v < 0) (T := 17) (F := 9) (lv' := [some (.ref 1021), some (.int v)]) (st' := []) (h1 := am_h (am_pu w 21 (aw_c21 0 (Int32.ofNat tl) (Int32.ofNat pl) wd wt sn)) g) rfl (fun c1 => ?_) (fun c1 => ?_)
  · refine am_R.nxs 2 (pc' := 29) (lv' := [some (.ref 1021), some (.int v)]) (st' := [.int 32]) (h1 := am_h (am_pu w 21 (aw_c21 0 (Int32.ofNat tl) (Int32.ofNat pl) wd wt sn)) g) rfl ?_
    exact am_R.reti rfl rfl rfl
  · refine am_R.nxs 2 (pc' := 11) (lv' := [some (.ref 1021), some (.int v)]) (st' := [.ref 1021, .int v]) (h1 := am_h (am_pu w 21 (aw_c21 0 (Int32.ofNat tl) (Int32.ofNat pl) wd wt sn)) g) rfl ?_
    refine am_R.gf (pc' := 14) (v := .int (Int32.ofNat pl)) rfl (am_wf 21 (by decide) (rfl : (am_pu w 21 (aw_c21 0 (Int32.ofNat tl) (Int32.ofNat pl) wd wt sn)) 21 = _)) rfl rfl rfl ?_
    refine am_R.ites 1 (P := v < Int32.ofNat pl) (T := 22) (F := 17) (lv' := [some (.ref 1021), some (.int v)]) (st' := []) (h1 := am_h (am_pu w 21 (aw_c21 0 (Int32.ofNat tl) (Int32.ofNat pl) wd wt sn)) g) rfl (fun c2 => ?_) (fun c2 => ?_)
    · exact absurd c2 (fun q => hv.elim c1 (fun q2 => absurd q (Int32.not_lt.mpr q2)))
    · refine am_R.nxs 2 (pc' := 29) (lv' := [some (.ref 1021), some (.int v)]) (st' := [.int 32]) (h1 := am_h (am_pu w 21 (aw_c21 0 (Int32.ofNat tl) (Int32.ofNat pl) wd wt sn)) g) rfl ?_
      exact am_R.reti rfl rfl rfl
end
section
/-! The law's loop, out of its fifteen calls. -/
def aw_lv (i : Nat) (x5 x6 : Option Value) : am_L := [some (.ref 1000), some (.ref 1001), some (.ref 1021), some (.ref 1044), some (.int (Int32.ofNat i)), x5, x6]
/-- the case of the law's switch at pc keeps the invariant -/
def aw_Op (pc : Nat) : Prop := ∀ (d i : Nat) (w : Nat → am_C) (g : am_H) (x5 x6 : Option Value) (xs : List Int32), aw_Inv w → w 0 = am_I 0 xs → i + 4 ≤ xs.length → xs.length ≤ 2048 →
  ∃ (w' : Nat → am_C) (g' : am_H) (y5 y6 : Option Value), aw_Inv w' ∧ w' 0 = am_I 0 xs ∧ g'.length ≤ g.length + 1150 ∧ am_sz g' ≤ am_sz g + 14000 ∧
    ∀ (o : am_O) (h' : am_H), am_R (d + 40) 0 921 (aw_lv i y5 y6) [] (am_h w' g') o h' → am_R (d + 40) 0 pc (aw_lv i x5 x6) [] (am_h w g) o h'
theorem aw_and15 (v : Int32) : ∃ k, k < 16 ∧ v &&& 15 = Int32.ofNat k := by
  refine ⟨(v &&& 15).toUInt32.toNat, ?_, ?_⟩
  · have h1 : (v &&& 15).toUInt32.toNat = v.toUInt32.toNat &&& 15 := by
      show (v.toBitVec &&& (15 : Int32).toBitVec).toNat = _
      rw [BitVec.toNat_and]
      rfl
    rw [h1]
    exact Nat.lt_succ_of_le Nat.and_le_right
  · apply Int32.toBitVec_inj.mp
    show (v &&& 15).toBitVec = BitVec.ofNat 32 (v &&& 15).toBitVec.toNat
    rw [BitVec.ofNat_toNat, BitVec.setWidth_eq]
theorem aw_head {L i : Nat} (hL : L ≤ 2048) (hi : i ≤ 2052) : Int32.ofNat L - 4 < Int32.ofNat i ↔ L < i + 4 := by
  rw [Int32.lt_iff_toInt_lt]
  have e1 : (Int32.ofNat L).toInt = (L : Int) := Int32.toInt_ofNat_of_lt (by omega)
  have e2 : (Int32.ofNat i).toInt = (i : Int) := Int32.toInt_ofNat_of_lt (by omega)
  have e3 : (Int32.ofNat L - 4).toInt = (L : Int) - 4 := by
    rw [Int32.toInt_sub, e1]
    have : (4 : Int32).toInt = 4 := rfl
    rw [this]
    exact Int.bmod_eq_of_le (by omega) (by omega)
  rw [e3, e2]
  omega
section AmLoop
variable {d : Nat} {w : Nat → am_C} {g : am_H} {xs : List Int32}
theorem aw_toks (h : aw_Inv w) : ∀ t, t < 4 → aw_Tok w t := by
  obtain ⟨tl, pl, sp, ft, wd, wt, sn, -, -, -, -, ⟨r0, r1, r2, to, ma, pi, br, bk, co, -, hp, -, hT, h0, h1, h2⟩, -⟩ := h
  intro t ht
  have key : ∀ {r s : Nat}, aw_Sh w r s to ma pi br bk co → aw_Tok w r := by
    intro r s hs
    obtain ⟨wc, bc, sc, ic, cc, dp, rd, ws, pc, bw, h, -⟩ := hs
    exact ⟨wc, bc, sc, ic, cc, dp, rd, ws, pc, bw, h⟩
  rcases (by omega : t = r0 ∨ t = r1 ∨ t = r2 ∨ t = sp) with rfl | rfl | rfl | rfl
  · exact key h0
  · exact key h1
  · exact key h2
  · exact hT
theorem aw_csI (t : Nat) (l : List Int32) : am_cs (am_I t l) = l.length := by
  show (l.map Value.int).length = _
  rw [List.length_map]
theorem aw_size (h : aw_Inv w) (h0 : w 0 = am_I 0 xs) : am_sz (am_h w g) ≤ xs.length + 12000 + am_sz g := by
  have hT := aw_toks h
  obtain ⟨tl, pl, sp, ft, wd, wt, sn, h1, h21, ⟨tx, mt, h2, h22, l2, l22, -⟩, ⟨pg, mp, h3, h23, l3, l23, -⟩, ⟨r0, r1, r2, to, ma, pi, br, bk, co, h4, -, ⟨m1, m2, m3, m4, m5, m6, m7, m8, m9, m10, m11, m12⟩, -⟩, ⟨n1, n2, c⟩, ⟨out, h44⟩⟩ := h
  obtain ⟨⟨a32, b32, c32⟩, ⟨a33, b33, c33⟩, ⟨a34, b34, c34⟩, ⟨a35, b35, c35⟩, ⟨a36, b36, c36⟩, ⟨a37, b37, c37⟩, ⟨a38, b38, c38⟩, ⟨a39, b39, c39⟩, ⟨a40, b40, c40⟩, ⟨a41, b41, c41⟩, ⟨a42, b42, c42⟩, ⟨a43, b43, c43⟩⟩ := c
  have key : ∀ t, t < 4 → am_cs (w (5 + 4 * t)) = 10 ∧ am_cs (w (6 + 4 * t)) = 120 ∧ am_cs (w (7 + 4 * t)) = 576 ∧ am_cs (w (8 + 4 * t)) = 120 := by
    intro t ht
    obtain ⟨wc, bc, sc, ic, cc, dp, rd, ws, pc, bw, q1, q2, q3, q4, q5, q6, q7⟩ := hT t ht
    exact ⟨by rw [q1]; rfl, by rw [q2]; exact q5, by rw [q3, aw_csI]; exact q6, by rw [q4, aw_csI]; exact q7⟩
  obtain ⟨k00, k01, k02, k03⟩ := key 0 (by decide)
  obtain ⟨k10, k11, k12, k13⟩ := key 1 (by decide)
  obtain ⟨k20, k21, k22, k23⟩ := key 2 (by decide)
  obtain ⟨k30, k31, k32, k33⟩ := key 3 (by decide)
  have hs : am_sz (am_h w g) = am_sz ((List.range 45).map w) + am_sz g := by
    unfold am_h am_sz
    rw [List.map_append, List.sum_append]
  have hr : (List.range 45).map w = [w 0, w 1, w 2, w 3, w 4, w (5 + 4 * 0), w (6 + 4 * 0), w (7 + 4 * 0), w (8 + 4 * 0), w (5 + 4 * 1), w (6 + 4 * 1), w (7 + 4 * 1), w (8 + 4 * 1), w (5 + 4 * 2), w (6 + 4 * 2), w (7 + 4 * 2), w (8 + 4 * 2), w (5 + 4 * 3), w (6 + 4 * 3), w (7 + 4 * 3), w (8 + 4 * 3), w 21, w 22, w 23, w 24, w 25, w 26, w 27, w 28, w 29, w 30, w 31, w 32, w 33, w 34, w 35, w 36, w 37, w 38, w 39, w 40, w 41, w 42, w 43, w 44] := rfl
  rw [hs, hr]
  unfold am_sz
  simp only [List.map_cons, List.map_nil, List.sum_cons, List.sum_nil, k00, k01, k02, k03, k10, k11, k12, k13, k20, k21, k22, k23, k30, k31, k32, k33]
  rw [h0, h1, h2, h3, h4, h21, h22, h23, n1, n2, m1, m2, m3, m4, m5, m6, b32, b33, b34, b35, b36, b37, b38, b39, b40, b41, b42, b43, h44]
  simp only [aw_csI]
  have e1 : am_cs (aw_c1 tl pl sp) = 6 := rfl
  have e4 : am_cs (.inr (5, [.ref (1005 + 4 * r0), .ref (1005 + 4 * r1), .ref (1005 + 4 * r2)])) = 3 := rfl
  have e21 : am_cs (aw_c21 ft (Int32.ofNat tl) (Int32.ofNat pl) wd wt sn) = 28 := rfl
  have e24 : am_cs (.inr (3, aw_n1.map Value.long)) = 37 := rfl
  have e25 : am_cs (.inr (3, aw_n2.map Value.long)) = 37 := rfl
  have e44 : am_cs (.inr (3, [.long out])) = 1 := rfl
  rw [e1, e4, e21, e24, e25, e44]
  omega
set_option maxRecDepth 100000 in
set_option maxHeartbeats 1000000 in
theorem aw_loop (hx : xs.length ≤ 2048) (o0 : aw_Op 112) (o1 : aw_Op 139) (o2 : aw_Op 152) (o3 : aw_Op 208) (o4 : aw_Op 288) (o5 : aw_Op 368) (o6 : aw_Op 436) (o7 : aw_Op 504) (o8 : aw_Op 560) (o9 : aw_Op 628) (o10 : aw_Op 696) (o11 : aw_Op 771) (o12 : aw_Op 827) (o13 : aw_Op 883) (o14 : aw_Op 896) :
    ∀ (n i : Nat) (w : Nat → am_C) (g : am_H) (x5 x6 : Option Value), xs.length < i + 4 + 4 * n → i ≤ xs.length + 4 → aw_Inv w → w 0 = am_I 0 xs →
    ∃ h' : am_H, am_R (d + 40) 0 23 (aw_lv i x5 x6) [] (am_h w g) (.inl (some (.int 1))) h' ∧ h'.length ≤ 45 + g.length + n * 1150 ∧ am_sz h' ≤ xs.length + 12000 + am_sz g + n * 14000 := by
  intro n
  induction n with
  | zero =>
    intro i w g x5 x6 hn hi hI h0
    refine ⟨am_h w g, ?_, by rw [am_h_len]; omega, by have := aw_size (g := g) hI h0; omega⟩
    refine am_R.nxs 2 (pc' := 26) (lv' := aw_lv i x5 x6) (st' := [.ref 1000, .int (Int32.ofNat i)]) (h1 := am_h w g) rfl ?_
    refine am_R.ali (xs := xs) (pc' := 27) rfl (am_wf 0 (by decide) h0) rfl ?_
    refine am_R.ites 3 (P := Int32.ofNat xs.length - 4 < Int32.ofNat i) (T := 927) (F := 32) (lv' := aw_lv i x5 x6) (st' := []) (h1 := am_h w g) rfl (fun c => ?_) (fun c => ?_)
    · refine am_R.nxs 1 (pc' := 928) (lv' := aw_lv i x5 x6) (st' := [.int 1]) (h1 := am_h w g) rfl ?_
      exact am_R.reti rfl rfl rfl
    · exact absurd ((aw_head hx (by omega)).mpr (by omega)) c
  | succ n ih =>
    intro i w g x5 x6 hn hi hI h0
    by_cases hc : xs.length < i + 4
    · obtain ⟨h', q1, q2, q3⟩ := (⟨am_h w g, by
        refine am_R.nxs 2 (pc' := 26) (lv' := aw_lv i x5 x6) (st' := [.ref 1000, .int (Int32.ofNat i)]) (h1 := am_h w g) rfl ?_
        refine am_R.ali (xs := xs) (pc' := 27) rfl (am_wf 0 (by decide) h0) rfl ?_
        refine am_R.ites 3 (P := Int32.ofNat xs.length - 4 < Int32.ofNat i) (T := 927) (F := 32) (lv' := aw_lv i x5 x6) (st' := []) (h1 := am_h w g) rfl (fun c => ?_) (fun c => ?_)
        · refine am_R.nxs 1 (pc' := 928) (lv' := aw_lv i x5 x6) (st' := [.int 1]) (h1 := am_h w g) rfl ?_
          exact am_R.reti rfl rfl rfl
        · exact absurd ((aw_head hx (by omega)).mpr (by omega)) c, by rw [am_h_len]; omega, by have := aw_size (g := g) hI h0; omega⟩ : ∃ h' : am_H, am_R (d + 40) 0 23 (aw_lv i x5 x6) [] (am_h w g) (.inl (some (.int 1))) h' ∧ h'.length ≤ 45 + g.length ∧ am_sz h' ≤ xs.length + 12000 + am_sz g)
      exact ⟨h', q1, by omega, by omega⟩
    · have next : ∀ {pc : Nat}, aw_Op pc → ∃ h' : am_H, am_R (d + 40) 0 pc (aw_lv i x5 x6) [] (am_h w g) (.inl (some (.int 1))) h' ∧ h'.length ≤ 45 + g.length + (n + 1) * 1150 ∧ am_sz h' ≤ xs.length + 12000 + am_sz g + (n + 1) * 14000 := by
        intro pc op
        obtain ⟨w', g', y5, y6, a1, a2, a3, a4, a5⟩ := op d i w g x5 x6 xs hI h0 (by omega) hx
        obtain ⟨h', b1, b2, b3⟩ := ih (i + 4) w' g' y5 y6 (by omega) (by omega) a1 a2
        refine ⟨h', a5 _ _ ?_, by omega, by omega⟩
        refine am_R.nxs 2 (pc' := 23) (lv' := [some (.ref 1000), some (.ref 1001), some (.ref 1021), some (.ref 1044), some (.int (Int32.ofNat i + 4)), y5, y6]) (st' := []) (h1 := am_h w' g') rfl ?_
        rw [show Int32.ofNat i + 4 = Int32.ofNat (i + 4) from am_add i 4]
        exact b1
      have skip : ∃ h' : am_H, am_R (d + 40) 0 921 (aw_lv i x5 x6) [] (am_h w g) (.inl (some (.int 1))) h' ∧ h'.length ≤ 45 + g.length + (n + 1) * 1150 ∧ am_sz h' ≤ xs.length + 12000 + am_sz g + (n + 1) * 14000 := by
        obtain ⟨h', b1, b2, b3⟩ := ih (i + 4) w g x5 x6 (by omega) (by omega) hI h0
        refine ⟨h', ?_, by omega, by omega⟩
        refine am_R.nxs 2 (pc' := 23) (lv' := [some (.ref 1000), some (.ref 1001), some (.ref 1021), some (.ref 1044), some (.int (Int32.ofNat i + 4)), x5, x6]) (st' := []) (h1 := am_h w g) rfl ?_
        rw [show Int32.ofNat i + 4 = Int32.ofNat (i + 4) from am_add i 4]
        exact b1
      have enter : ∀ {pc : Nat} {k : Nat}, xs.getD i 0 &&& 15 = Int32.ofNat k → am_nx 0 39 (aw_lv i x5 x6) [.int (Int32.ofNat k)] (am_h w g) = some (pc, aw_lv i x5 x6, [], am_h w g) → (∃ h' : am_H, am_R (d + 40) 0 pc (aw_lv i x5 x6) [] (am_h w g) (.inl (some (.int 1))) h' ∧ h'.length ≤ 45 + g.length + (n + 1) * 1150 ∧ am_sz h' ≤ xs.length + 12000 + am_sz g + (n + 1) * 14000) →
          ∃ h' : am_H, am_R (d + 40) 0 23 (aw_lv i x5 x6) [] (am_h w g) (.inl (some (.int 1))) h' ∧ h'.length ≤ 45 + g.length + (n + 1) * 1150 ∧ am_sz h' ≤ xs.length + 12000 + am_sz g + (n + 1) * 14000 := by
        intro pc k hk hs hh
        obtain ⟨h', q1, q2, q3⟩ := hh
        refine ⟨h', ?_, q2, q3⟩
        refine am_R.nxs 2 (pc' := 26) (lv' := aw_lv i x5 x6) (st' := [.ref 1000, .int (Int32.ofNat i)]) (h1 := am_h w g) rfl ?_
        refine am_R.ali (xs := xs) (pc' := 27) rfl (am_wf 0 (by decide) h0) rfl ?_
        refine am_R.ites 3 (P := Int32.ofNat xs.length - 4 < Int32.ofNat i) (T := 927) (F := 32) (lv' := aw_lv i x5 x6) (st' := []) (h1 := am_h w g) rfl (fun c => ?_) (fun c => ?_)
        · exact absurd ((aw_head hx (by omega)).mp c) (by omega)
        · refine am_R.nxs 2 (pc' := 35) (lv' := aw_lv i x5 x6) (st' := [.int (Int32.ofNat i), .ref 1000]) (h1 := am_h w g) rfl ?_
          refine am_R.ldi (i := i) (xs := xs) (pc' := 36) rfl (am_wf 0 (by decide) h0) (by omega) (by omega) rfl ?_
          refine am_R.nxs 2 (pc' := 39) (lv' := aw_lv i x5 x6) (st' := [.int (xs.getD i 0 &&& 15)]) (h1 := am_h w g) rfl ?_
          rw [hk]
          exact am_R.nx hs q1
      obtain ⟨k, k1, k2⟩ := aw_and15 (xs.getD i 0)
      rcases (by omega : k = 0 ∨ k = 1 ∨ k = 2 ∨ k = 3 ∨ k = 4 ∨ k = 5 ∨ k = 6 ∨ k = 7 ∨ k = 8 ∨ k = 9 ∨ k = 10 ∨ k = 11 ∨ k = 12 ∨ k = 13 ∨ k = 14 ∨ k = 15) with rfl | rfl | rfl | rfl | rfl | rfl | rfl | rfl | rfl | rfl | rfl | rfl | rfl | rfl | rfl | rfl
      · exact enter k2 rfl (next o0)
      · exact enter k2 rfl (next o1)
      · exact enter k2 rfl (next o2)
      · exact enter k2 rfl (next o3)
      · exact enter k2 rfl (next o4)
      · exact enter k2 rfl (next o5)
      · exact enter k2 rfl (next o6)
      · exact enter k2 rfl (next o7)
      · exact enter k2 rfl (next o8)
      · exact enter k2 rfl (next o9)
      · exact enter k2 rfl (next o10)
      · exact enter k2 rfl (next o11)
      · exact enter k2 rfl (next o12)
      · exact enter k2 rfl (next o13)
      · exact enter k2 rfl (next o14)
      · exact enter k2 rfl skip
end AmLoop
end
section
/-! The calls of length, charAt, wipe, type in the law. -/
theorem aw_Txt_0 {w w' : Nat → am_C} {tl : Nat} (h : aw_Txt w tl) (e2 : w' 2 = w 2 := by rfl) (e22 : w' 22 = w 22 := by rfl) : aw_Txt w' 0 := by
  obtain ⟨tx, mt, a1, a2, a3, a4, -⟩ := h
  exact ⟨tx, mt, e2.trans a1, e22.trans a2, a3, a4, Nat.zero_le _, fun i hi => absurd hi (Nat.not_lt_zero i)⟩
set_option maxRecDepth 100000 in
theorem aw_o13 : aw_Op 883 := by
  intro d i w g x5 x6 xs hI h0 hi hx
  obtain ⟨tl, pl, sp, ft, wd, wt, sn, h1, h21, hT, hP, hS, hC, hO⟩ := hI
  refine ⟨am_pu w 21 (aw_c21 0 (Int32.ofNat tl) (Int32.ofNat pl) wd wt sn), g, x5, x6, ⟨tl, pl, sp, 0, wd, wt, sn, h1, rfl, hT, hP, aw_Shs_up (by omega) hS, hC, hO⟩, h0, by omega, by omega, fun o h' K => ?_⟩
  refine am_R.nxs 1 (pc' := 884) (lv' := [some (.ref 1000), some (.ref 1001), some (.ref 1021), some (.ref 1044), some (.int (Int32.ofNat i)), x5, x6]) (st' := [.ref 1001]) (h1 := am_h w g) rfl ?_
  refine am_R.cv (a := 1001) (as' := []) (r := []) (v := some (.int (Int32.ofNat pl))) (h1 := am_h w g) (pc' := 887) rfl rfl rfl rfl (am_wf 1 (by decide) h1) rfl rfl (aw_k5 (d + 39) h1) rfl ?_
  refine am_R.nxs 1 (pc' := 888) (lv' := [some (.ref 1000), some (.ref 1001), some (.ref 1021), some (.ref 1044), some (.int (Int32.ofNat i)), x5, x6]) (st' := [.ref 1021, .int (Int32.ofNat pl)]) (h1 := am_h w g) rfl ?_
  refine am_R.cv (a := 1021) (as' := []) (r := [.int (Int32.ofNat pl)]) (v := some (.int (Int32.ofNat pl))) (h1 := am_h (am_pu w 21 (aw_c21 0 (Int32.ofNat tl) (Int32.ofNat pl) wd wt sn)) g) (pc' := 891) rfl rfl rfl rfl (am_wf 21 (by decide) h21) rfl rfl (aw_k148 (d + 39) h21) rfl ?_
  refine am_R.ites 1 (P := Int32.ofNat pl = Int32.ofNat pl) (T := 921) (F := 894) (lv' := [some (.ref 1000), some (.ref 1001), some (.ref 1021), some (.ref 1044), some (.int (Int32.ofNat i)), x5, x6]) (st' := []) (h1 := am_h (am_pu w 21 (aw_c21 0 (Int32.ofNat tl) (Int32.ofNat pl) wd wt sn)) g) rfl (fun c1 => ?_) (fun c1 => ?_)
  · exact K
  · exact absurd rfl c1
set_option maxRecDepth 100000 in
theorem aw_o1 : aw_Op 139 := by
  intro d i w g x5 x6 xs hI h0 hi hx
  obtain ⟨tl, pl, sp, ft, wd, wt, sn, h1, h21, hT, hP, hS, hC, hO⟩ := hI
  refine ⟨am_pu (am_pu w 1 (aw_c1 0 pl sp)) 21 (aw_c21 0 0 (Int32.ofNat pl) wd wt sn), g, x5, x6, ⟨0, pl, sp, 0, wd, wt, sn, rfl, rfl, aw_Txt_0 hT, hP, aw_Shs_up (by omega) (aw_Shs_up (by omega) hS), hC, hO⟩, h0, by omega, by omega, fun o h' K => ?_⟩
  refine am_R.nxs 1 (pc' := 140) (lv' := [some (.ref 1000), some (.ref 1001), some (.ref 1021), some (.ref 1044), some (.int (Int32.ofNat i)), x5, x6]) (st' := [.ref 1001]) (h1 := am_h w g) rfl ?_
  refine am_R.cv (a := 1001) (as' := []) (r := []) (v := some (.int (Int32.ofNat tl))) (h1 := am_h (am_pu w 1 (aw_c1 0 pl sp)) g) (pc' := 143) rfl rfl rfl rfl (am_wf 1 (by decide) h1) rfl rfl (aw_k4 (d + 39) h1) rfl ?_
  refine am_R.nxs 1 (pc' := 144) (lv' := [some (.ref 1000), some (.ref 1001), some (.ref 1021), some (.ref 1044), some (.int (Int32.ofNat i)), x5, x6]) (st' := [.ref 1021, .int (Int32.ofNat tl)]) (h1 := am_h (am_pu w 1 (aw_c1 0 pl sp)) g) rfl ?_
  refine am_R.cv (a := 1021) (as' := []) (r := [.int (Int32.ofNat tl)]) (v := some (.int (Int32.ofNat tl))) (h1 := am_h (am_pu (am_pu w 1 (aw_c1 0 pl sp)) 21 (aw_c21 0 0 (Int32.ofNat pl) wd wt sn)) g) (pc' := 147) rfl rfl rfl rfl (am_wf 21 (by decide) h21) rfl rfl (aw_k97 (d + 39) h21) rfl ?_
  refine am_R.ites 1 (P := Int32.ofNat tl = Int32.ofNat tl) (T := 921) (F := 150) (lv' := [some (.ref 1000), some (.ref 1001), some (.ref 1021), some (.ref 1044), some (.int (Int32.ofNat i)), x5, x6]) (st' := []) (h1 := am_h (am_pu (am_pu w 1 (aw_c1 0 pl sp)) 21 (aw_c21 0 0 (Int32.ofNat pl) wd wt sn)) g) rfl (fun c1 => ?_) (fun c1 => ?_)
  · exact K
  · exact absurd rfl c1
theorem aw_c16 (v : Int32) : 0 ≤ (v.toUInt32 % 65536).toInt32 ∧ (v.toUInt32 % 65536).toInt32 ≤ 65535 := by
  have h : (v.toUInt32 % 65536).toNat < 65536 := by
    rw [UInt32.toNat_mod]
    exact Nat.mod_lt _ (by decide)
  have e : (v.toUInt32 % 65536).toInt32 = Int32.ofNat (v.toUInt32 % 65536).toNat := by
    apply Int32.toBitVec_inj.mp
    show (v.toUInt32 % 65536).toBitVec = BitVec.ofNat 32 (v.toUInt32 % 65536).toBitVec.toNat
    rw [BitVec.ofNat_toNat, BitVec.setWidth_eq]
  rw [e]
  exact ⟨(Int32.ofNat_le_ofNat (by decide) (by omega)).mpr (Nat.zero_le _), (am_leN (n := 65535) (by omega) (by decide)).mpr (by omega)⟩
theorem aw_nat {v : Int32} (h : ¬ v < 0) : ∃ n, n < 2 ^ 31 ∧ v = Int32.ofNat n := by
  refine ⟨v.toNatClampNeg, ?_, am_natOf h⟩
  have h4 : v.toInt ≤ 2147483647 := Int32.toInt_le v
  unfold Int32.toNatClampNeg
  omega
theorem aw_c16_id {x : Int32} (h : aw_chr x) : (x.toUInt32 % 65536).toInt32 = x := by
  obtain ⟨h1, h2⟩ := h
  obtain ⟨n, hn, rfl⟩ := aw_nat (Int32.not_lt.mpr (Int32.le_trans (by decide) h1))
  have h3 : n < 127 := Nat.lt_succ_of_le ((am_leN (i := n) (n := 126) hn (by decide)).mp h2)
  have key : ∀ n, n < 127 → ((Int32.ofNat n).toUInt32 % 65536).toInt32 = Int32.ofNat n := by decide
  exact key n h3
theorem aw_fitc {x : Int32} (h : aw_chr x) : fits .char (.int x) = true := by
  obtain ⟨h1, h2⟩ := h
  have h3 : (0 : Int32) ≤ x := Int32.le_trans (by decide) h1
  have h4 : x ≤ 65535 := Int32.le_trans h2 (by decide)
  simp [fits, h3, h4]
theorem aw_Txt_put {w' : Nat → am_C} {tl : Nat} {tx mt : List Int32} {c : Int32} (l1 : tx.length = 120) (l2 : mt.length = 120) (ht : tl < 120) (h : ∀ i, i < tl → tx.getD i 0 = mt.getD i 0 ∧ aw_chr (tx.getD i 0)) (hc : aw_chr c) (e1 : w' 2 = am_I 1 (tx.set tl c)) (e2 : w' 22 = am_I 0 (mt.set tl c)) : aw_Txt w' (tl + 1) := by
  refine ⟨_, _, e1, e2, by rw [List.length_set]; exact l1, by rw [List.length_set]; exact l2, by omega, fun i hi => ?_⟩
  simp only [List.getD_eq_getElem?_getD]
  by_cases hq : i = tl
  · subst hq
    rw [List.getElem?_set_self (by omega), List.getElem?_set_self (by omega)]
    exact ⟨rfl, hc⟩
  · rw [List.getElem?_set_ne (fun q => hq q.symm), List.getElem?_set_ne (fun q => hq q.symm)]
    have := h i (by omega)
    simp only [List.getD_eq_getElem?_getD] at this
    exact this
set_option maxRecDepth 100000 in
theorem aw_o0 : aw_Op 112 := by
  intro d i w g x5 x6 xs hI h0 hi hx
  obtain ⟨tl, pl, sp, ft, wd, wt, sn, h1, h21, hT, hP, hS, hC, hO⟩ := hI
  obtain ⟨tx, mt, h2, h22, l2, l22, ht, hr⟩ := id hT
  by_cases hq : (((xs.getD (i + 1) 0).toUInt32 % 65536).toInt32) < 32 ∨ 126 < (((xs.getD (i + 1) 0).toUInt32 % 65536).toInt32) ∨ 120 ≤ tl
  · have hn := hq
    refine ⟨am_pu w 21 (aw_c21 0 (Int32.ofNat tl) (Int32.ofNat pl) wd wt sn), g, x5, x6, ⟨tl, pl, sp, 0, wd, wt, sn, h1, rfl, hT, hP, aw_Shs_up (by omega) hS, hC, hO⟩, h0, by omega, by omega, fun o h' K => ?_⟩
    refine am_R.nxs 5 (pc' := 118) (lv' := [some (.ref 1000), some (.ref 1001), some (.ref 1021), some (.ref 1044), some (.int (Int32.ofNat i)), x5, x6]) (st' := [.int (Int32.ofNat i + 1), .ref 1000, .ref 1001]) (h1 := am_h w g) rfl ?_
    rw [show (Int32.ofNat i + 1 : Int32) = Int32.ofNat (i + 1) from am_add i 1]
    refine am_R.ldi (i := (i + 1)) (xs := xs) (pc' := 119) rfl (am_wf 0 (by decide) h0) (by omega) (by omega) rfl ?_
    refine am_R.nxs 1 (pc' := 120) (lv' := [some (.ref 1000), some (.ref 1001), some (.ref 1021), some (.ref 1044), some (.int (Int32.ofNat i)), x5, x6]) (st' := [.int ((((xs.getD (i + 1) 0)).toUInt32 % 65536).toInt32), .ref 1001]) (h1 := am_h w g) rfl ?_
    refine am_R.cv (a := 1001) (as' := [.int ((((xs.getD (i + 1) 0)).toUInt32 % 65536).toInt32)]) (r := []) (v := some (.int 0)) (h1 := am_h w g) (pc' := 123) rfl rfl rfl rfl (am_wf 1 (by decide) h1) rfl rfl (aw_k3b (d + 39) h1 _ hn ht) rfl ?_
    refine am_R.nxs 5 (pc' := 129) (lv' := [some (.ref 1000), some (.ref 1001), some (.ref 1021), some (.ref 1044), some (.int (Int32.ofNat i)), x5, x6]) (st' := [.int (Int32.ofNat i + 1), .ref 1000, .ref 1021, .int 0]) (h1 := am_h w g) rfl ?_
    rw [show (Int32.ofNat i + 1 : Int32) = Int32.ofNat (i + 1) from am_add i 1]
    refine am_R.ldi (i := (i + 1)) (xs := xs) (pc' := 130) rfl (am_wf 0 (by decide) h0) (by omega) (by omega) rfl ?_
    refine am_R.nxs 1 (pc' := 131) (lv' := [some (.ref 1000), some (.ref 1001), some (.ref 1021), some (.ref 1044), some (.int (Int32.ofNat i)), x5, x6]) (st' := [.int ((((xs.getD (i + 1) 0)).toUInt32 % 65536).toInt32), .ref 1021, .int 0]) (h1 := am_h w g) rfl ?_
    refine am_R.cv (a := 1021) (as' := [.int ((((xs.getD (i + 1) 0)).toUInt32 % 65536).toInt32)]) (r := [.int 0]) (v := some (.int 0)) (h1 := am_h (am_pu w 21 (aw_c21 0 (Int32.ofNat tl) (Int32.ofNat pl) wd wt sn)) g) (pc' := 134) rfl rfl rfl rfl (am_wf 21 (by decide) h21) rfl rfl (aw_k96b (d + 39) h21 _ hn ht) rfl ?_
    refine am_R.ites 1 (P := 0 = 0) (T := 921) (F := 137) (lv' := [some (.ref 1000), some (.ref 1001), some (.ref 1021), some (.ref 1044), some (.int (Int32.ofNat i)), x5, x6]) (st' := []) (h1 := am_h (am_pu w 21 (aw_c21 0 (Int32.ofNat tl) (Int32.ofNat pl) wd wt sn)) g) rfl (fun c1 => ?_) (fun c1 => ?_)
    · exact K
    · exact absurd rfl c1
  · have ha : ¬ (((xs.getD (i + 1) 0).toUInt32 % 65536).toInt32) < 32 := fun q => hq (Or.inl q)
    have hb : ¬ 126 < (((xs.getD (i + 1) 0).toUInt32 % 65536).toInt32) := fun q => hq (Or.inr (Or.inl q))
    have ht : tl < 120 := by
      by_cases q : tl < 120
      · exact q
      · exact absurd (Or.inr (Or.inr (by omega))) hq
    refine ⟨(am_pu (am_pu (am_pu (am_pu w 2 (am_I 1 (tx.set tl (((xs.getD (i + 1) 0).toUInt32 % 65536).toInt32)))) 1 (aw_c1 (tl + 1) pl sp)) 21 (aw_c21 0 (Int32.ofNat (tl + 1)) (Int32.ofNat pl) wd wt sn)) 22 (am_I 0 (mt.set tl (((xs.getD (i + 1) 0).toUInt32 % 65536).toInt32)))), g, x5, x6, ⟨tl + 1, pl, sp, 0, wd, wt, sn, rfl, rfl, aw_Txt_put l2 l22 ht hr ⟨Int32.not_lt.mp ha, Int32.not_lt.mp hb⟩ rfl rfl, hP, aw_Shs_up (by omega) (aw_Shs_up (by omega) (aw_Shs_up (by omega) (aw_Shs_up (by omega) hS))), hC, hO⟩, h0, by omega, by omega, fun o h' K => ?_⟩
    refine am_R.nxs 5 (pc' := 118) (lv' := [some (.ref 1000), some (.ref 1001), some (.ref 1021), some (.ref 1044), some (.int (Int32.ofNat i)), x5, x6]) (st' := [.int (Int32.ofNat i + 1), .ref 1000, .ref 1001]) (h1 := am_h w g) rfl ?_
    rw [show (Int32.ofNat i + 1 : Int32) = Int32.ofNat (i + 1) from am_add i 1]
    refine am_R.ldi (i := (i + 1)) (xs := xs) (pc' := 119) rfl (am_wf 0 (by decide) h0) (by omega) (by omega) rfl ?_
    refine am_R.nxs 1 (pc' := 120) (lv' := [some (.ref 1000), some (.ref 1001), some (.ref 1021), some (.ref 1044), some (.int (Int32.ofNat i)), x5, x6]) (st' := [.int ((((xs.getD (i + 1) 0)).toUInt32 % 65536).toInt32), .ref 1001]) (h1 := am_h w g) rfl ?_
    refine am_R.cv (a := 1001) (as' := [.int ((((xs.getD (i + 1) 0)).toUInt32 % 65536).toInt32)]) (r := []) (v := some (.int 1)) (h1 := am_h (am_pu (am_pu w 2 (am_I 1 (tx.set tl (((xs.getD (i + 1) 0).toUInt32 % 65536).toInt32)))) 1 (aw_c1 (tl + 1) pl sp)) g) (pc' := 123) rfl rfl rfl rfl (am_wf 1 (by decide) h1) rfl rfl (aw_k3a (d + 39) h1 h2 l2 _ ha hb ht (aw_c16 _).1 (aw_c16 _).2) rfl ?_
    refine am_R.nxs 5 (pc' := 129) (lv' := [some (.ref 1000), some (.ref 1001), some (.ref 1021), some (.ref 1044), some (.int (Int32.ofNat i)), x5, x6]) (st' := [.int (Int32.ofNat i + 1), .ref 1000, .ref 1021, .int 1]) (h1 := am_h (am_pu (am_pu w 2 (am_I 1 (tx.set tl (((xs.getD (i + 1) 0).toUInt32 % 65536).toInt32)))) 1 (aw_c1 (tl + 1) pl sp)) g) rfl ?_
    rw [show (Int32.ofNat i + 1 : Int32) = Int32.ofNat (i + 1) from am_add i 1]
    refine am_R.ldi (i := (i + 1)) (xs := xs) (pc' := 130) rfl (am_wf 0 (by decide) h0) (by omega) (by omega) rfl ?_
    refine am_R.nxs 1 (pc' := 131) (lv' := [some (.ref 1000), some (.ref 1001), some (.ref 1021), some (.ref 1044), some (.int (Int32.ofNat i)), x5, x6]) (st' := [.int ((((xs.getD (i + 1) 0)).toUInt32 % 65536).toInt32), .ref 1021, .int 1]) (h1 := am_h (am_pu (am_pu w 2 (am_I 1 (tx.set tl (((xs.getD (i + 1) 0).toUInt32 % 65536).toInt32)))) 1 (aw_c1 (tl + 1) pl sp)) g) rfl ?_
    refine am_R.cv (a := 1021) (as' := [.int ((((xs.getD (i + 1) 0)).toUInt32 % 65536).toInt32)]) (r := [.int 1]) (v := some (.int 1)) (h1 := am_h (am_pu (am_pu (am_pu (am_pu w 2 (am_I 1 (tx.set tl (((xs.getD (i + 1) 0).toUInt32 % 65536).toInt32)))) 1 (aw_c1 (tl + 1) pl sp)) 21 (aw_c21 0 (Int32.ofNat (tl + 1)) (Int32.ofNat pl) wd wt sn)) 22 (am_I 0 (mt.set tl (((xs.getD (i + 1) 0).toUInt32 % 65536).toInt32)))) g) (pc' := 134) rfl rfl rfl rfl (am_wf 21 (by decide) h21) rfl rfl (aw_k96a (w := (am_pu (am_pu w 2 (am_I 1 (tx.set tl (((xs.getD (i + 1) 0).toUInt32 % 65536).toInt32)))) 1 (aw_c1 (tl + 1) pl sp))) (d + 39) h21 h22 l22 _ ha hb ht) rfl ?_
    refine am_R.ites 1 (P := 1 = 1) (T := 921) (F := 137) (lv' := [some (.ref 1000), some (.ref 1001), some (.ref 1021), some (.ref 1044), some (.int (Int32.ofNat i)), x5, x6]) (st' := []) (h1 := am_h (am_pu (am_pu (am_pu (am_pu w 2 (am_I 1 (tx.set tl (((xs.getD (i + 1) 0).toUInt32 % 65536).toInt32)))) 1 (aw_c1 (tl + 1) pl sp)) 21 (aw_c21 0 (Int32.ofNat (tl + 1)) (Int32.ofNat pl) wd wt sn)) 22 (am_I 0 (mt.set tl (((xs.getD (i + 1) 0).toUInt32 % 65536).toInt32)))) g) rfl (fun c1 => ?_) (fun c1 => ?_)
    · exact K
    · exact absurd rfl c1
set_option maxRecDepth 100000 in
theorem aw_o14 : aw_Op 896 := by
  intro d i w g x5 x6 xs hI h0 hi hx
  obtain ⟨tl, pl, sp, ft, wd, wt, sn, h1, h21, hT, hP, hS, hC, hO⟩ := hI
  obtain ⟨pg, mp, h3, h23, l3, l23, hpl, hr⟩ := id hP
  by_cases hv : xs.getD (i + 1) 0 < 0 ∨ Int32.ofNat pl ≤ xs.getD (i + 1) 0
  · refine ⟨am_pu w 21 (aw_c21 0 (Int32.ofNat tl) (Int32.ofNat pl) wd wt sn), g, x5, x6, ⟨tl, pl, sp, 0, wd, wt, sn, h1, rfl, hT, hP, aw_Shs_up (by omega) hS, hC, hO⟩, h0, by omega, by omega, fun o h' K => ?_⟩
    refine am_R.nxs 5 (pc' := 902) (lv' := [some (.ref 1000), some (.ref 1001), some (.ref 1021), some (.ref 1044), some (.int (Int32.ofNat i)), x5, x6]) (st' := [.int (Int32.ofNat i + 1), .ref 1000, .ref 1001]) (h1 := am_h w g) rfl ?_
    rw [show (Int32.ofNat i + 1 : Int32) = Int32.ofNat (i + 1) from am_add i 1]
    refine am_R.ldi (i := (i + 1)) (xs := xs) (pc' := 903) rfl (am_wf 0 (by decide) h0) (by omega) (by omega) rfl ?_
    refine am_R.cv (a := 1001) (as' := [.int (xs.getD (i + 1) 0)]) (r := []) (v := some (.int 32)) (h1 := am_h w g) (pc' := 906) rfl rfl rfl rfl (am_wf 1 (by decide) h1) rfl rfl (aw_k6b (d + 39) h1 _ hv) rfl ?_
    refine am_R.nxs 5 (pc' := 912) (lv' := [some (.ref 1000), some (.ref 1001), some (.ref 1021), some (.ref 1044), some (.int (Int32.ofNat i)), x5, x6]) (st' := [.int (Int32.ofNat i + 1), .ref 1000, .ref 1021, .int 32]) (h1 := am_h w g) rfl ?_
    rw [show (Int32.ofNat i + 1 : Int32) = Int32.ofNat (i + 1) from am_add i 1]
    refine am_R.ldi (i := (i + 1)) (xs := xs) (pc' := 913) rfl (am_wf 0 (by decide) h0) (by omega) (by omega) rfl ?_
    refine am_R.cv (a := 1021) (as' := [.int (xs.getD (i + 1) 0)]) (r := [.int 32]) (v := some (.int 32)) (h1 := am_h (am_pu w 21 (aw_c21 0 (Int32.ofNat tl) (Int32.ofNat pl) wd wt sn)) g) (pc' := 916) rfl rfl rfl rfl (am_wf 21 (by decide) h21) rfl rfl (aw_k149b (d + 39) h21 _ hv) rfl ?_
    refine am_R.ites 1 (P := 32 = 32) (T := 921) (F := 919) (lv' := [some (.ref 1000), some (.ref 1001), some (.ref 1021), some (.ref 1044), some (.int (Int32.ofNat i)), x5, x6]) (st' := []) (h1 := am_h (am_pu w 21 (aw_c21 0 (Int32.ofNat tl) (Int32.ofNat pl) wd wt sn)) g) rfl (fun c1 => ?_) (fun c1 => ?_)
    · exact K
    · exact absurd rfl c1
  · obtain ⟨k, hkb, hk⟩ := aw_nat (fun q => hv (Or.inl q))
    have hkl : k < pl := by
      rw [hk] at hv
      exact (am_ltN hkb (by omega)).mp (Int32.not_le.mp (fun q => hv (Or.inr q)))
    refine ⟨am_pu w 21 (aw_c21 0 (Int32.ofNat tl) (Int32.ofNat pl) wd wt sn), g, x5, x6, ⟨tl, pl, sp, 0, wd, wt, sn, h1, rfl, hT, hP, aw_Shs_up (by omega) hS, hC, hO⟩, h0, by omega, by omega, fun o h' K => ?_⟩
    refine am_R.nxs 5 (pc' := 902) (lv' := [some (.ref 1000), some (.ref 1001), some (.ref 1021), some (.ref 1044), some (.int (Int32.ofNat i)), x5, x6]) (st' := [.int (Int32.ofNat i + 1), .ref 1000, .ref 1001]) (h1 := am_h w g) rfl ?_
    rw [show (Int32.ofNat i + 1 : Int32) = Int32.ofNat (i + 1) from am_add i 1]
    refine am_R.ldi (i := (i + 1)) (xs := xs) (pc' := 903) rfl (am_wf 0 (by decide) h0) (by omega) (by omega) rfl ?_
    refine am_R.cv (a := 1001) (as' := [.int (xs.getD (i + 1) 0)]) (r := []) (v := some (.int (pg.getD k 0))) (h1 := am_h w g) (pc' := 906) rfl rfl rfl rfl (am_wf 1 (by decide) h1) rfl rfl (by rw [hk]; exact aw_k6a (d + 39) h1 h3 l3 (by omega) k hkl (fun k hk => aw_fitc (hr k hk).2)) rfl ?_
    refine am_R.nxs 5 (pc' := 912) (lv' := [some (.ref 1000), some (.ref 1001), some (.ref 1021), some (.ref 1044), some (.int (Int32.ofNat i)), x5, x6]) (st' := [.int (Int32.ofNat i + 1), .ref 1000, .ref 1021, .int (pg.getD k 0)]) (h1 := am_h w g) rfl ?_
    rw [show (Int32.ofNat i + 1 : Int32) = Int32.ofNat (i + 1) from am_add i 1]
    refine am_R.ldi (i := (i + 1)) (xs := xs) (pc' := 913) rfl (am_wf 0 (by decide) h0) (by omega) (by omega) rfl ?_
    refine am_R.cv (a := 1021) (as' := [.int (xs.getD (i + 1) 0)]) (r := [.int (pg.getD k 0)]) (v := some (.int (mp.getD k 0))) (h1 := am_h (am_pu w 21 (aw_c21 0 (Int32.ofNat tl) (Int32.ofNat pl) wd wt sn)) g) (pc' := 916) rfl rfl rfl rfl (am_wf 21 (by decide) h21) rfl rfl (by rw [hk]; exact aw_k149a (d + 39) h21 h23 l23 hpl k hkl (fun k hk => ⟨aw_c16_id ((hr k hk).1 ▸ (hr k hk).2), aw_fitc ((hr k hk).1 ▸ (hr k hk).2)⟩)) rfl ?_
    refine am_R.ites 1 (P := (pg.getD k 0) = (mp.getD k 0)) (T := 921) (F := 919) (lv' := [some (.ref 1000), some (.ref 1001), some (.ref 1021), some (.ref 1044), some (.int (Int32.ofNat i)), x5, x6]) (st' := []) (h1 := am_h (am_pu w 21 (aw_c21 0 (Int32.ofNat tl) (Int32.ofNat pl) wd wt sn)) g) rfl (fun c1 => ?_) (fun c1 => ?_)
    · exact K
    · exact absurd (hr k hkl).1 c1
end
section
/-! Refusals; the Told of a shield; the wrappers of the law, and its cases, out of what the two sides answer. -/
theorem aw_k9a (d : Nat) (h : am_H) (s : Int32) (h1 : ¬ s < 0) (h2 : s < 3) : am_R d 9 0 [some (.ref 1001), some (.int s)] [] h (.inl none) h := by
  refine am_R.ites 2 (P := s < 0) (T := 9) (F := 4) (lv' := [some (.ref 1001), some (.int s)]) (st' := []) (h1 := h) rfl (fun c1 => ?_) (fun c1 => ?_)
  · exact absurd c1 h1
  · refine am_R.ites 3 (P := s < 3) (T := 19) (F := 9) (lv' := [some (.ref 1001), some (.int s)]) (st' := []) (h1 := h) rfl (fun c2 => ?_) (fun c2 => ?_)
    · exact am_R.ret rfl rfl
    · exact absurd h2 c2
theorem aw_k9b (d : Nat) (h : am_H) (s : Int32) (hs : s < 0 ∨ ¬ s < 3) : am_R d 9 0 [some (.ref 1001), some (.int s)] [] h (.inr (1000 + h.length)) (h ++ [.inl (8, [])]) := by
  refine am_R.ites 2 (P := s < 0) (T := 9) (F := 4) (lv' := [some (.ref 1001), some (.int s)]) (st' := []) (h1 := h) rfl (fun c1 => ?_) (fun c1 => ?_)
  · exact am_R.tw rfl rfl
  · refine am_R.ites 3 (P := s < 3) (T := 19) (F := 9) (lv' := [some (.ref 1001), some (.int s)]) (st' := []) (h1 := h) rfl (fun c2 => ?_) (fun c2 => ?_)
    · exact absurd hs (fun q => q.elim c1 (fun q => q c2))
    · exact am_R.tw rfl rfl
theorem aw_k68a (d : Nat) (h : am_H) (s : Int32) (h1 : ¬ s < 0) (h2 : s < 24) : am_R d 68 0 [some (.ref 1001), some (.int s)] [] h (.inl none) h := by
  refine am_R.ites 2 (P := s < 0) (T := 10) (F := 4) (lv' := [some (.ref 1001), some (.int s)]) (st' := []) (h1 := h) rfl (fun c1 => ?_) (fun c1 => ?_)
  · exact absurd c1 h1
  · refine am_R.ites 3 (P := s < 24) (T := 20) (F := 10) (lv' := [some (.ref 1001), some (.int s)]) (st' := []) (h1 := h) rfl (fun c2 => ?_) (fun c2 => ?_)
    · exact am_R.ret rfl rfl
    · exact absurd h2 c2
theorem aw_k68b (d : Nat) (h : am_H) (s : Int32) (hs : s < 0 ∨ ¬ s < 24) : am_R d 68 0 [some (.ref 1001), some (.int s)] [] h (.inr (1000 + h.length)) (h ++ [.inl (8, [])]) := by
  refine am_R.ites 2 (P := s < 0) (T := 10) (F := 4) (lv' := [some (.ref 1001), some (.int s)]) (st' := []) (h1 := h) rfl (fun c1 => ?_) (fun c1 => ?_)
  · exact am_R.tw rfl rfl
  · refine am_R.ites 3 (P := s < 24) (T := 20) (F := 10) (lv' := [some (.ref 1001), some (.int s)]) (st' := []) (h1 := h) rfl (fun c2 => ?_) (fun c2 => ?_)
    · exact absurd hs (fun q => q.elim c1 (fun q => q c2))
    · exact am_R.tw rfl rfl
theorem aw_nn (k : Nat) (h : k < 2 ^ 31 := by omega) : ¬ Int32.ofNat k < 0 := Int32.not_lt.mpr ((am_leN (i := 0) (by decide) h).mpr (Nat.zero_le _))
theorem aw_k69a {w : Nat → am_C} {g : am_H} (d : Nat) {tl pl sp : Nat} (h1 : w 1 = aw_c1 tl pl sp) {rs : List Value} (h4 : w 4 = .inr (5, rs)) (hl : rs.length = 3) {k r : Nat} (hk : k < 3) (hr : r < 4) (hrs : rs[k]? = some (.ref (1005 + 4 * r))) {wc bc sc ic cc dp rd : Int32} (hT : w (5 + 4 * r) = aw_cT r wc bc sc ic cc dp rd) (hd : rd = 1) : am_R (d + 1) 69 0 [some (.ref 1001), some (.int (Int32.ofNat k)), none] [] (am_h w g) (.inl (some (.ref (1005 + 4 * r)))) (am_h w g) := by
  refine am_R.nxs 2 (pc' := 2) (lv' := [some (.ref 1001), some (.int (Int32.ofNat k)), none]) (st' := [.int (Int32.ofNat k), .ref 1001]) (h1 := am_h w g) rfl ?_
  refine am_R.cv (a := 1001) (as' := [.int (Int32.ofNat k)]) (r := []) (v := none) (h1 := am_h w g) (pc' := 5) rfl rfl rfl rfl (am_wf 1 (by decide) h1) rfl rfl (aw_k9a d _ _ (aw_nn k) ((am_ltN (n := 3) (by omega) (by decide)).mpr hk)) rfl ?_
  refine am_R.nxs 1 (pc' := 6) (lv' := [some (.ref 1001), some (.int (Int32.ofNat k)), none]) (st' := [.ref 1001]) (h1 := am_h w g) rfl ?_
  refine am_R.gf (pc' := 9) (v := .ref 1004) rfl (am_wf 1 (by decide) h1) rfl rfl rfl ?_
  refine am_R.nxs 1 (pc' := 10) (lv' := [some (.ref 1001), some (.int (Int32.ofNat k)), none]) (st' := [.int (Int32.ofNat k), .ref 1004]) (h1 := am_h w g) rfl ?_
  refine am_R.lda (i := k) (xs := rs) (v := .ref (1005 + 4 * r)) (pc' := 11) rfl (am_wf 4 (by decide) h4) (by decide) (by omega) (by omega) (hrs) rfl ?_
  refine am_R.nxs 2 (pc' := 13) (lv' := [some (.ref 1001), some (.int (Int32.ofNat k)), some (.ref (1005 + 4 * r))]) (st' := [.ref (1005 + 4 * r)]) (h1 := am_h w g) rfl ?_
  refine am_R.gf (pc' := 16) (v := .int rd) rfl (aw_at5 hr hT) rfl rfl rfl ?_
  refine am_R.ites 1 (P := ¬ rd = 0) (T := 29) (F := 19) (lv' := [some (.ref 1001), some (.int (Int32.ofNat k)), some (.ref (1005 + 4 * r))]) (st' := []) (h1 := am_h w g) rfl (fun c1 => ?_) (fun c1 => ?_)
  · refine am_R.nxs 1 (pc' := 30) (lv' := [some (.ref 1001), some (.int (Int32.ofNat k)), some (.ref (1005 + 4 * r))]) (st' := [.ref (1005 + 4 * r)]) (h1 := am_h w g) rfl ?_
    exact am_R.ret rfl rfl
  · exact absurd (by rw [hd]; decide) c1
theorem aw_k69b {w : Nat → am_C} {g : am_H} (d : Nat) {tl pl sp : Nat} (h1 : w 1 = aw_c1 tl pl sp) {rs : List Value} (h4 : w 4 = .inr (5, rs)) (hl : rs.length = 3) {k r : Nat} (hk : k < 3) (hr : r < 4) (hrs : rs[k]? = some (.ref (1005 + 4 * r))) {wc bc sc ic cc dp rd : Int32} (hT : w (5 + 4 * r) = aw_cT r wc bc sc ic cc dp rd) (hd : rd = 0) : am_R (d + 1) 69 0 [some (.ref 1001), some (.int (Int32.ofNat k)), none] [] (am_h w g) (.inr (1000 + (am_h w g).length)) (am_h w (g ++ [.inl (9, [])])) := by
  refine am_R.nxs 2 (pc' := 2) (lv' := [some (.ref 1001), some (.int (Int32.ofNat k)), none]) (st' := [.int (Int32.ofNat k), .ref 1001]) (h1 := am_h w g) rfl ?_
  refine am_R.cv (a := 1001) (as' := [.int (Int32.ofNat k)]) (r := []) (v := none) (h1 := am_h w g) (pc' := 5) rfl rfl rfl rfl (am_wf 1 (by decide) h1) rfl rfl (aw_k9a d _ _ (aw_nn k) ((am_ltN (n := 3) (by omega) (by decide)).mpr hk)) rfl ?_
  refine am_R.nxs 1 (pc' := 6) (lv' := [some (.ref 1001), some (.int (Int32.ofNat k)), none]) (st' := [.ref 1001]) (h1 := am_h w g) rfl ?_
  refine am_R.gf (pc' := 9) (v := .ref 1004) rfl (am_wf 1 (by decide) h1) rfl rfl rfl ?_
  refine am_R.nxs 1 (pc' := 10) (lv' := [some (.ref 1001), some (.int (Int32.ofNat k)), none]) (st' := [.int (Int32.ofNat k), .ref 1004]) (h1 := am_h w g) rfl ?_
  refine am_R.lda (i := k) (xs := rs) (v := .ref (1005 + 4 * r)) (pc' := 11) rfl (am_wf 4 (by decide) h4) (by decide) (by omega) (by omega) (hrs) rfl ?_
  refine am_R.nxs 2 (pc' := 13) (lv' := [some (.ref 1001), some (.int (Int32.ofNat k)), some (.ref (1005 + 4 * r))]) (st' := [.ref (1005 + 4 * r)]) (h1 := am_h w g) rfl ?_
  refine am_R.gf (pc' := 16) (v := .int rd) rfl (aw_at5 hr hT) rfl rfl rfl ?_
  refine am_R.ites 1 (P := ¬ rd = 0) (T := 29) (F := 19) (lv' := [some (.ref 1001), some (.int (Int32.ofNat k)), some (.ref (1005 + 4 * r))]) (st' := []) (h1 := am_h w g) rfl (fun c1 => ?_) (fun c1 => ?_)
  · exact absurd hd c1
  · exact am_R.tw rfl rfl
theorem aw_k69c {w : Nat → am_C} {g : am_H} (d : Nat) {tl pl sp : Nat} (h1 : w 1 = aw_c1 tl pl sp) (s : Int32) (hs : s < 0 ∨ ¬ s < 3) : am_R (d + 1) 69 0 [some (.ref 1001), some (.int s), none] [] (am_h w g) (.inr (1000 + (am_h w g).length)) (am_h w (g ++ [.inl (8, [])])) := by
  refine am_R.nxs 2 (pc' := 2) (lv' := [some (.ref 1001), some (.int s), none]) (st' := [.int s, .ref 1001]) (h1 := am_h w g) rfl ?_
  exact am_R.cvp (a := 1001) (as' := [.int s]) (r := []) rfl rfl rfl rfl (am_wf 1 (by decide) h1) rfl rfl (aw_k9b d _ _ hs) rfl
theorem aw_k77a {w : Nat → am_C} {g : am_H} (d : Nat) {tl pl sp : Nat} (h1 : w 1 = aw_c1 tl pl sp) {rs : List Value} (h4 : w 4 = .inr (5, rs)) (hl : rs.length = 3) {k r : Nat} (hk : k < 3) (hr : r < 4) (hrs : rs[k]? = some (.ref (1005 + 4 * r))) {wc bc sc ic cc dp rd : Int32} (hT : w (5 + 4 * r) = aw_cT r wc bc sc ic cc dp rd) (hd : rd = 1) : am_R (d + 2) 77 0 [some (.ref 1001), some (.int (Int32.ofNat k))] [] (am_h w g) (.inl (some (.int bc))) (am_h w g) := by
  refine am_R.nxs 2 (pc' := 2) (lv' := [some (.ref 1001), some (.int (Int32.ofNat k))]) (st' := [.int (Int32.ofNat k), .ref 1001]) (h1 := am_h w g) rfl ?_
  refine am_R.cv (a := 1001) (as' := [.int (Int32.ofNat k)]) (r := []) (v := some (.ref (1005 + 4 * r))) (h1 := am_h w g) (pc' := 5) rfl rfl rfl rfl (am_wf 1 (by decide) h1) rfl rfl (aw_k69a d h1 h4 hl hk hr hrs hT hd) rfl ?_
  refine am_R.gf (pc' := 8) (v := .int bc) rfl (aw_at5 hr hT) rfl rfl rfl ?_
  exact am_R.reti rfl rfl rfl
theorem aw_k77b {w : Nat → am_C} {g : am_H} (d : Nat) {tl pl sp : Nat} (h1 : w 1 = aw_c1 tl pl sp) {rs : List Value} (h4 : w 4 = .inr (5, rs)) (hl : rs.length = 3) {k r : Nat} (hk : k < 3) (hr : r < 4) (hrs : rs[k]? = some (.ref (1005 + 4 * r))) {wc bc sc ic cc dp rd : Int32} (hT : w (5 + 4 * r) = aw_cT r wc bc sc ic cc dp rd) (hd : rd = 0) : am_R (d + 2) 77 0 [some (.ref 1001), some (.int (Int32.ofNat k))] [] (am_h w g) (.inr (1000 + (am_h w g).length)) (am_h w (g ++ [.inl (9, [])])) := by
  refine am_R.nxs 2 (pc' := 2) (lv' := [some (.ref 1001), some (.int (Int32.ofNat k))]) (st' := [.int (Int32.ofNat k), .ref 1001]) (h1 := am_h w g) rfl ?_
  exact am_R.cvp (a := 1001) (as' := [.int (Int32.ofNat k)]) (r := []) rfl rfl rfl rfl (am_wf 1 (by decide) h1) rfl rfl (aw_k69b d h1 h4 hl hk hr hrs hT hd) rfl
theorem aw_k77c {w : Nat → am_C} {g : am_H} (d : Nat) {tl pl sp : Nat} (h1 : w 1 = aw_c1 tl pl sp) (s : Int32) (hs : s < 0 ∨ ¬ s < 3) : am_R (d + 2) 77 0 [some (.ref 1001), some (.int s)] [] (am_h w g) (.inr (1000 + (am_h w g).length)) (am_h w (g ++ [.inl (8, [])])) := by
  refine am_R.nxs 2 (pc' := 2) (lv' := [some (.ref 1001), some (.int s)]) (st' := [.int s, .ref 1001]) (h1 := am_h w g) rfl ?_
  exact am_R.cvp (a := 1001) (as' := [.int s]) (r := []) rfl rfl rfl rfl (am_wf 1 (by decide) h1) rfl rfl (aw_k69c d h1 s hs) rfl
theorem aw_k79a {w : Nat → am_C} {g : am_H} (d : Nat) {tl pl sp : Nat} (h1 : w 1 = aw_c1 tl pl sp) {rs : List Value} (h4 : w 4 = .inr (5, rs)) (hl : rs.length = 3) {k r : Nat} (hk : k < 3) (hr : r < 4) (hrs : rs[k]? = some (.ref (1005 + 4 * r))) {b : Nat} {wc sc ic cc dp rd : Int32} (hT : w (5 + 4 * r) = aw_cT r wc (Int32.ofNat b) sc ic cc dp rd) {bw : List Int32} (hB : w (8 + 4 * r) = am_I 0 bw) (hbl : bw.length = 120) (hd : rd = 1) (i : Nat) (hi : i < b) (hb : b ≤ 120) : am_R (d + 2) 79 0 [some (.ref 1001), some (.int (Int32.ofNat k)), some (.int (Int32.ofNat i)), none] [] (am_h w g) (.inl (some (.int (bw.getD i 0)))) (am_h w g) := by
  refine am_R.nxs 2 (pc' := 2) (lv' := [some (.ref 1001), some (.int (Int32.ofNat k)), some (.int (Int32.ofNat i)), none]) (st' := [.int (Int32.ofNat k), .ref 1001]) (h1 := am_h w g) rfl ?_
  refine am_R.cv (a := 1001) (as' := [.int (Int32.ofNat k)]) (r := []) (v := some (.ref (1005 + 4 * r))) (h1 := am_h w g) (pc' := 5) rfl rfl rfl rfl (am_wf 1 (by decide) h1) rfl rfl (aw_k69a d h1 h4 hl hk hr hrs hT hd) rfl ?_
  refine am_R.ites 3 (P := Int32.ofNat i < 0) (T := 27) (F := 10) (lv' := [some (.ref 1001), some (.int (Int32.ofNat k)), some (.int (Int32.ofNat i)), some (.ref (1005 + 4 * r))]) (st' := []) (h1 := am_h w g) rfl (fun c1 => ?_) (fun c1 => ?_)
  · have c1 : i < 0 := (am_ltN (i := i) (n := 0) (by omega) (by omega)).mp c1
    omega
  · have c1 : ¬ i < 0 := fun hq9 => c1 ((am_ltN (i := i) (n := 0) (by omega) (by omega)).mpr hq9)
    refine am_R.nxs 2 (pc' := 12) (lv' := [some (.ref 1001), some (.int (Int32.ofNat k)), some (.int (Int32.ofNat i)), some (.ref (1005 + 4 * r))]) (st' := [.ref (1005 + 4 * r), .int (Int32.ofNat i)]) (h1 := am_h w g) rfl ?_
    refine am_R.gf (pc' := 15) (v := .int (Int32.ofNat b)) rfl (aw_at5 hr hT) rfl rfl rfl ?_
    refine am_R.ites 1 (P := Int32.ofNat b ≤ Int32.ofNat i) (T := 27) (F := 18) (lv' := [some (.ref 1001), some (.int (Int32.ofNat k)), some (.int (Int32.ofNat i)), some (.ref (1005 + 4 * r))]) (st' := []) (h1 := am_h w g) rfl (fun c2 => ?_) (fun c2 => ?_)
    · have c2 : b ≤ i := (am_leN (i := b) (n := i) (by omega) (by omega)).mp c2
      omega
    · have c2 : ¬ b ≤ i := fun hq9 => c2 ((am_leN (i := b) (n := i) (by omega) (by omega)).mpr hq9)
      refine am_R.nxs 1 (pc' := 19) (lv' := [some (.ref 1001), some (.int (Int32.ofNat k)), some (.int (Int32.ofNat i)), some (.ref (1005 + 4 * r))]) (st' := [.ref (1005 + 4 * r)]) (h1 := am_h w g) rfl ?_
      refine am_R.gf (pc' := 22) (v := .ref (1008 + 4 * r)) rfl (aw_at5 hr hT) rfl rfl rfl ?_
      refine am_R.nxs 1 (pc' := 23) (lv' := [some (.ref 1001), some (.int (Int32.ofNat k)), some (.int (Int32.ofNat i)), some (.ref (1005 + 4 * r))]) (st' := [.int (Int32.ofNat i), .ref (1008 + 4 * r)]) (h1 := am_h w g) rfl ?_
      refine am_R.ldi (i := i) (xs := bw) (pc' := 24) rfl (aw_at8 hr hB) (by omega) (by omega) rfl ?_
      refine am_R.nxs 1 (pc' := 28) (lv' := [some (.ref 1001), some (.int (Int32.ofNat k)), some (.int (Int32.ofNat i)), some (.ref (1005 + 4 * r))]) (st' := [.int (bw.getD i 0)]) (h1 := am_h w g) rfl ?_
      exact am_R.reti rfl rfl rfl
theorem aw_k79e {w : Nat → am_C} {g : am_H} (d : Nat) {tl pl sp : Nat} (h1 : w 1 = aw_c1 tl pl sp) {rs : List Value} (h4 : w 4 = .inr (5, rs)) (hl : rs.length = 3) {k r : Nat} (hk : k < 3) (hr : r < 4) (hrs : rs[k]? = some (.ref (1005 + 4 * r))) {b : Nat} {wc sc ic cc dp rd : Int32} (hT : w (5 + 4 * r) = aw_cT r wc (Int32.ofNat b) sc ic cc dp rd) (hd : rd = 1) (v : Int32) (hv : v < 0 ∨ Int32.ofNat b ≤ v) : am_R (d + 2) 79 0 [some (.ref 1001), some (.int (Int32.ofNat k)), some (.int v), none] [] (am_h w g) (.inl (some (.int (-1)))) (am_h w g) := by
  refine am_R.nxs 2 (pc' := 2) (lv' := [some (.ref 1001), some (.int (Int32.ofNat k)), some (.int v), none]) (st' := [.int (Int32.ofNat k), .ref 1001]) (h1 := am_h w g) rfl ?_
  refine am_R.cv (a := 1001) (as' := [.int (Int32.ofNat k)]) (r := []) (v := some (.ref (1005 + 4 * r))) (h1 := am_h w g) (pc' := 5) rfl rfl rfl rfl (am_wf 1 (by decide) h1) rfl rfl (aw_k69a d h1 h4 hl hk hr hrs hT hd) rfl ?_
  refine am_R.ites 3 (P := v < 0) (T := 27) (F := 10) (lv' := [some (.ref 1001), some (.int (Int32.ofNat k)), some (.int v), some (.ref (1005 + 4 * r))]) (st' := []) (h1 := am_h w g) rfl (fun c1 => ?_) (fun c1 => ?_)
  · refine am_R.nxs 1 (pc' := 28) (lv' := [some (.ref 1001), some (.int (Int32.ofNat k)), some (.int v), some (.ref (1005 + 4 * r))]) (st' := [.int (-1)]) (h1 := am_h w g) rfl ?_
    exact am_R.reti rfl rfl rfl
  · refine am_R.nxs 2 (pc' := 12) (lv' := [some (.ref 1001), some (.int (Int32.ofNat k)), some (.int v), some (.ref (1005 + 4 * r))]) (st' := [.ref (1005 + 4 * r), .int v]) (h1 := am_h w g) rfl ?_
    refine am_R.gf (pc' := 15) (v := .int (Int32.ofNat b)) rfl (aw_at5 hr hT) rfl rfl rfl ?_
    refine am_R.ites 1 (P := Int32.ofNat b ≤ v) (T := 27) (F := 18) (lv' := [some (.ref 1001), some (.int (Int32.ofNat k)), some (.int v), some (.ref (1005 + 4 * r))]) (st' := []) (h1 := am_h w g) rfl (fun c2 => ?_) (fun c2 => ?_)
    · refine am_R.nxs 1 (pc' := 28) (lv' := [some (.ref 1001), some (.int (Int32.ofNat k)), some (.int v), some (.ref (1005 + 4 * r))]) (st' := [.int (-1)]) (h1 := am_h w g) rfl ?_
      exact am_R.reti rfl rfl rfl
    · exact absurd hv (fun q => q.elim c1 c2)
theorem aw_k79b {w : Nat → am_C} {g : am_H} (d : Nat) {tl pl sp : Nat} (h1 : w 1 = aw_c1 tl pl sp) {rs : List Value} (h4 : w 4 = .inr (5, rs)) (hl : rs.length = 3) {k r : Nat} (hk : k < 3) (hr : r < 4) (hrs : rs[k]? = some (.ref (1005 + 4 * r))) {wc bc sc ic cc dp rd : Int32} (hT : w (5 + 4 * r) = aw_cT r wc bc sc ic cc dp rd) (hd : rd = 0) (v : Int32) : am_R (d + 2) 79 0 [some (.ref 1001), some (.int (Int32.ofNat k)), some (.int v), none] [] (am_h w g) (.inr (1000 + (am_h w g).length)) (am_h w (g ++ [.inl (9, [])])) := by
  refine am_R.nxs 2 (pc' := 2) (lv' := [some (.ref 1001), some (.int (Int32.ofNat k)), some (.int v), none]) (st' := [.int (Int32.ofNat k), .ref 1001]) (h1 := am_h w g) rfl ?_
  exact am_R.cvp (a := 1001) (as' := [.int (Int32.ofNat k)]) (r := []) rfl rfl rfl rfl (am_wf 1 (by decide) h1) rfl rfl (aw_k69b d h1 h4 hl hk hr hrs hT hd) rfl
theorem aw_k79c {w : Nat → am_C} {g : am_H} (d : Nat) {tl pl sp : Nat} (h1 : w 1 = aw_c1 tl pl sp) (s v : Int32) (hs : s < 0 ∨ ¬ s < 3) : am_R (d + 2) 79 0 [some (.ref 1001), some (.int s), some (.int v), none] [] (am_h w g) (.inr (1000 + (am_h w g).length)) (am_h w (g ++ [.inl (8, [])])) := by
  refine am_R.nxs 2 (pc' := 2) (lv' := [some (.ref 1001), some (.int s), some (.int v), none]) (st' := [.int s, .ref 1001]) (h1 := am_h w g) rfl ?_
  exact am_R.cvp (a := 1001) (as' := [.int s]) (r := []) rfl rfl rfl rfl (am_wf 1 (by decide) h1) rfl rfl (aw_k69c d h1 s hs) rfl
theorem aw_k81a0 {w : Nat → am_C} {g : am_H} (d : Nat) {tl pl sp : Nat} (h1 : w 1 = aw_c1 tl pl sp) {rs : List Value} (h4 : w 4 = .inr (5, rs)) (hl : rs.length = 3) {k r : Nat} (hk : k < 3) (hr : r < 4) (hrs : rs[k]? = some (.ref (1005 + 4 * r))) {wc bc sc ic cc dp rd : Int32} (hT : w (5 + 4 * r) = aw_cT r wc bc sc ic cc dp rd) (hd : rd = 1) : am_R (d + 2) 81 0 [some (.ref 1001), some (.int (Int32.ofNat k)), some (.int 0), none] [] (am_h w g) (.inl (some (.int sc))) (am_h w g) := by
  refine am_R.nxs 2 (pc' := 2) (lv' := [some (.ref 1001), some (.int (Int32.ofNat k)), some (.int 0), none]) (st' := [.int (Int32.ofNat k), .ref 1001]) (h1 := am_h w g) rfl ?_
  refine am_R.cv (a := 1001) (as' := [.int (Int32.ofNat k)]) (r := []) (v := none) (h1 := am_h w g) (pc' := 5) rfl rfl rfl rfl (am_wf 1 (by decide) h1) rfl rfl (aw_k9a (d + 1) _ _ (aw_nn k) ((am_ltN (n := 3) (by omega) (by decide)).mpr hk)) rfl ?_
  refine am_R.ites 2 (P := 0 < 0) (T := 14) (F := 9) (lv' := [some (.ref 1001), some (.int (Int32.ofNat k)), some (.int 0), none]) (st' := []) (h1 := am_h w g) rfl (fun c1 => ?_) (fun c1 => ?_)
  · exact absurd c1 (by decide)
  · refine am_R.ites 3 (P := 0 ≤ 3) (T := 24) (F := 14) (lv' := [some (.ref 1001), some (.int (Int32.ofNat k)), some (.int 0), none]) (st' := []) (h1 := am_h w g) rfl (fun c2 => ?_) (fun c2 => ?_)
    · refine am_R.nxs 2 (pc' := 26) (lv' := [some (.ref 1001), some (.int (Int32.ofNat k)), some (.int 0), none]) (st' := [.int (Int32.ofNat k), .ref 1001]) (h1 := am_h w g) rfl ?_
      refine am_R.cv (a := 1001) (as' := [.int (Int32.ofNat k)]) (r := []) (v := some (.ref (1005 + 4 * r))) (h1 := am_h w g) (pc' := 29) rfl rfl rfl rfl (am_wf 1 (by decide) h1) rfl rfl (aw_k69a d h1 h4 hl hk hr hrs hT hd) rfl ?_
      refine am_R.nxs 2 (pc' := 31) (lv' := [some (.ref 1001), some (.int (Int32.ofNat k)), some (.int 0), some (.ref (1005 + 4 * r))]) (st' := [.int 0]) (h1 := am_h w g) rfl ?_
      refine am_R.nx (pc' := 56) (lv' := [some (.ref 1001), some (.int (Int32.ofNat k)), some (.int 0), some (.ref (1005 + 4 * r))]) (st' := []) (h1 := am_h w g) rfl ?_
      refine am_R.nxs 1 (pc' := 57) (lv' := [some (.ref 1001), some (.int (Int32.ofNat k)), some (.int 0), some (.ref (1005 + 4 * r))]) (st' := [.ref (1005 + 4 * r)]) (h1 := am_h w g) rfl ?_
      refine am_R.gf (pc' := 60) (v := .int sc) rfl (aw_at5 hr hT) rfl rfl rfl ?_
      exact am_R.reti rfl rfl rfl
    · exact absurd (by decide) c2
theorem aw_k81a1 {w : Nat → am_C} {g : am_H} (d : Nat) {tl pl sp : Nat} (h1 : w 1 = aw_c1 tl pl sp) {rs : List Value} (h4 : w 4 = .inr (5, rs)) (hl : rs.length = 3) {k r : Nat} (hk : k < 3) (hr : r < 4) (hrs : rs[k]? = some (.ref (1005 + 4 * r))) {wc bc sc ic cc dp rd : Int32} (hT : w (5 + 4 * r) = aw_cT r wc bc sc ic cc dp rd) (hd : rd = 1) : am_R (d + 2) 81 0 [some (.ref 1001), some (.int (Int32.ofNat k)), some (.int 1), none] [] (am_h w g) (.inl (some (.int ic))) (am_h w g) := by
  refine am_R.nxs 2 (pc' := 2) (lv' := [some (.ref 1001), some (.int (Int32.ofNat k)), some (.int 1), none]) (st' := [.int (Int32.ofNat k), .ref 1001]) (h1 := am_h w g) rfl ?_
  refine am_R.cv (a := 1001) (as' := [.int (Int32.ofNat k)]) (r := []) (v := none) (h1 := am_h w g) (pc' := 5) rfl rfl rfl rfl (am_wf 1 (by decide) h1) rfl rfl (aw_k9a (d + 1) _ _ (aw_nn k) ((am_ltN (n := 3) (by omega) (by decide)).mpr hk)) rfl ?_
  refine am_R.ites 2 (P := 1 < 0) (T := 14) (F := 9) (lv' := [some (.ref 1001), some (.int (Int32.ofNat k)), some (.int 1), none]) (st' := []) (h1 := am_h w g) rfl (fun c1 => ?_) (fun c1 => ?_)
  · exact absurd c1 (by decide)
  · refine am_R.ites 3 (P := 1 ≤ 3) (T := 24) (F := 14) (lv' := [some (.ref 1001), some (.int (Int32.ofNat k)), some (.int 1), none]) (st' := []) (h1 := am_h w g) rfl (fun c2 => ?_) (fun c2 => ?_)
    · refine am_R.nxs 2 (pc' := 26) (lv' := [some (.ref 1001), some (.int (Int32.ofNat k)), some (.int 1), none]) (st' := [.int (Int32.ofNat k), .ref 1001]) (h1 := am_h w g) rfl ?_
      refine am_R.cv (a := 1001) (as' := [.int (Int32.ofNat k)]) (r := []) (v := some (.ref (1005 + 4 * r))) (h1 := am_h w g) (pc' := 29) rfl rfl rfl rfl (am_wf 1 (by decide) h1) rfl rfl (aw_k69a d h1 h4 hl hk hr hrs hT hd) rfl ?_
      refine am_R.nxs 2 (pc' := 31) (lv' := [some (.ref 1001), some (.int (Int32.ofNat k)), some (.int 1), some (.ref (1005 + 4 * r))]) (st' := [.int 1]) (h1 := am_h w g) rfl ?_
      refine am_R.nx (pc' := 61) (lv' := [some (.ref 1001), some (.int (Int32.ofNat k)), some (.int 1), some (.ref (1005 + 4 * r))]) (st' := []) (h1 := am_h w g) rfl ?_
      refine am_R.nxs 1 (pc' := 62) (lv' := [some (.ref 1001), some (.int (Int32.ofNat k)), some (.int 1), some (.ref (1005 + 4 * r))]) (st' := [.ref (1005 + 4 * r)]) (h1 := am_h w g) rfl ?_
      refine am_R.gf (pc' := 65) (v := .int ic) rfl (aw_at5 hr hT) rfl rfl rfl ?_
      exact am_R.reti rfl rfl rfl
    · exact absurd (by decide) c2
theorem aw_k81a2 {w : Nat → am_C} {g : am_H} (d : Nat) {tl pl sp : Nat} (h1 : w 1 = aw_c1 tl pl sp) {rs : List Value} (h4 : w 4 = .inr (5, rs)) (hl : rs.length = 3) {k r : Nat} (hk : k < 3) (hr : r < 4) (hrs : rs[k]? = some (.ref (1005 + 4 * r))) {wc bc sc ic cc dp rd : Int32} (hT : w (5 + 4 * r) = aw_cT r wc bc sc ic cc dp rd) (hd : rd = 1) : am_R (d + 2) 81 0 [some (.ref 1001), some (.int (Int32.ofNat k)), some (.int 2), none] [] (am_h w g) (.inl (some (.int cc))) (am_h w g) := by
  refine am_R.nxs 2 (pc' := 2) (lv' := [some (.ref 1001), some (.int (Int32.ofNat k)), some (.int 2), none]) (st' := [.int (Int32.ofNat k), .ref 1001]) (h1 := am_h w g) rfl ?_
  refine am_R.cv (a := 1001) (as' := [.int (Int32.ofNat k)]) (r := []) (v := none) (h1 := am_h w g) (pc' := 5) rfl rfl rfl rfl (am_wf 1 (by decide) h1) rfl rfl (aw_k9a (d + 1) _ _ (aw_nn k) ((am_ltN (n := 3) (by omega) (by decide)).mpr hk)) rfl ?_
  refine am_R.ites 2 (P := 2 < 0) (T := 14) (F := 9) (lv' := [some (.ref 1001), some (.int (Int32.ofNat k)), some (.int 2), none]) (st' := []) (h1 := am_h w g) rfl (fun c1 => ?_) (fun c1 => ?_)
  · exact absurd c1 (by decide)
  · refine am_R.ites 3 (P := 2 ≤ 3) (T := 24) (F := 14) (lv' := [some (.ref 1001), some (.int (Int32.ofNat k)), some (.int 2), none]) (st' := []) (h1 := am_h w g) rfl (fun c2 => ?_) (fun c2 => ?_)
    · refine am_R.nxs 2 (pc' := 26) (lv' := [some (.ref 1001), some (.int (Int32.ofNat k)), some (.int 2), none]) (st' := [.int (Int32.ofNat k), .ref 1001]) (h1 := am_h w g) rfl ?_
      refine am_R.cv (a := 1001) (as' := [.int (Int32.ofNat k)]) (r := []) (v := some (.ref (1005 + 4 * r))) (h1 := am_h w g) (pc' := 29) rfl rfl rfl rfl (am_wf 1 (by decide) h1) rfl rfl (aw_k69a d h1 h4 hl hk hr hrs hT hd) rfl ?_
      refine am_R.nxs 2 (pc' := 31) (lv' := [some (.ref 1001), some (.int (Int32.ofNat k)), some (.int 2), some (.ref (1005 + 4 * r))]) (st' := [.int 2]) (h1 := am_h w g) rfl ?_
      refine am_R.nx (pc' := 66) (lv' := [some (.ref 1001), some (.int (Int32.ofNat k)), some (.int 2), some (.ref (1005 + 4 * r))]) (st' := []) (h1 := am_h w g) rfl ?_
      refine am_R.nxs 1 (pc' := 67) (lv' := [some (.ref 1001), some (.int (Int32.ofNat k)), some (.int 2), some (.ref (1005 + 4 * r))]) (st' := [.ref (1005 + 4 * r)]) (h1 := am_h w g) rfl ?_
      refine am_R.gf (pc' := 70) (v := .int cc) rfl (aw_at5 hr hT) rfl rfl rfl ?_
      exact am_R.reti rfl rfl rfl
    · exact absurd (by decide) c2
theorem aw_k81a3 {w : Nat → am_C} {g : am_H} (d : Nat) {tl pl sp : Nat} (h1 : w 1 = aw_c1 tl pl sp) {rs : List Value} (h4 : w 4 = .inr (5, rs)) (hl : rs.length = 3) {k r : Nat} (hk : k < 3) (hr : r < 4) (hrs : rs[k]? = some (.ref (1005 + 4 * r))) {wc bc sc ic cc dp rd : Int32} (hT : w (5 + 4 * r) = aw_cT r wc bc sc ic cc dp rd) (hd : rd = 1) : am_R (d + 2) 81 0 [some (.ref 1001), some (.int (Int32.ofNat k)), some (.int 3), none] [] (am_h w g) (.inl (some (.int dp))) (am_h w g) := by
  refine am_R.nxs 2 (pc' := 2) (lv' := [some (.ref 1001), some (.int (Int32.ofNat k)), some (.int 3), none]) (st' := [.int (Int32.ofNat k), .ref 1001]) (h1 := am_h w g) rfl ?_
  refine am_R.cv (a := 1001) (as' := [.int (Int32.ofNat k)]) (r := []) (v := none) (h1 := am_h w g) (pc' := 5) rfl rfl rfl rfl (am_wf 1 (by decide) h1) rfl rfl (aw_k9a (d + 1) _ _ (aw_nn k) ((am_ltN (n := 3) (by omega) (by decide)).mpr hk)) rfl ?_
  refine am_R.ites 2 (P := 3 < 0) (T := 14) (F := 9) (lv' := [some (.ref 1001), some (.int (Int32.ofNat k)), some (.int 3), none]) (st' := []) (h1 := am_h w g) rfl (fun c1 => ?_) (fun c1 => ?_)
  · exact absurd c1 (by decide)
  · refine am_R.ites 3 (P := 3 ≤ 3) (T := 24) (F := 14) (lv' := [some (.ref 1001), some (.int (Int32.ofNat k)), some (.int 3), none]) (st' := []) (h1 := am_h w g) rfl (fun c2 => ?_) (fun c2 => ?_)
    · refine am_R.nxs 2 (pc' := 26) (lv' := [some (.ref 1001), some (.int (Int32.ofNat k)), some (.int 3), none]) (st' := [.int (Int32.ofNat k), .ref 1001]) (h1 := am_h w g) rfl ?_
      refine am_R.cv (a := 1001) (as' := [.int (Int32.ofNat k)]) (r := []) (v := some (.ref (1005 + 4 * r))) (h1 := am_h w g) (pc' := 29) rfl rfl rfl rfl (am_wf 1 (by decide) h1) rfl rfl (aw_k69a d h1 h4 hl hk hr hrs hT hd) rfl ?_
      refine am_R.nxs 2 (pc' := 31) (lv' := [some (.ref 1001), some (.int (Int32.ofNat k)), some (.int 3), some (.ref (1005 + 4 * r))]) (st' := [.int 3]) (h1 := am_h w g) rfl ?_
      refine am_R.nx (pc' := 71) (lv' := [some (.ref 1001), some (.int (Int32.ofNat k)), some (.int 3), some (.ref (1005 + 4 * r))]) (st' := []) (h1 := am_h w g) rfl ?_
      refine am_R.nxs 1 (pc' := 72) (lv' := [some (.ref 1001), some (.int (Int32.ofNat k)), some (.int 3), some (.ref (1005 + 4 * r))]) (st' := [.ref (1005 + 4 * r)]) (h1 := am_h w g) rfl ?_
      refine am_R.gf (pc' := 75) (v := .int dp) rfl (aw_at5 hr hT) rfl rfl rfl ?_
      exact am_R.reti rfl rfl rfl
    · exact absurd (by decide) c2
theorem aw_k81b {w : Nat → am_C} {g : am_H} (d : Nat) {tl pl sp : Nat} (h1 : w 1 = aw_c1 tl pl sp) {rs : List Value} (h4 : w 4 = .inr (5, rs)) (hl : rs.length = 3) {k r : Nat} (hk : k < 3) (hr : r < 4) (hrs : rs[k]? = some (.ref (1005 + 4 * r))) {wc bc sc ic cc dp rd : Int32} (hT : w (5 + 4 * r) = aw_cT r wc bc sc ic cc dp rd) (hd : rd = 0) (v : Int32) (h5 : ¬ v < 0) (h6 : v ≤ 3) : am_R (d + 2) 81 0 [some (.ref 1001), some (.int (Int32.ofNat k)), some (.int v), none] [] (am_h w g) (.inr (1000 + (am_h w g).length)) (am_h w (g ++ [.inl (9, [])])) := by
  refine am_R.nxs 2 (pc' := 2) (lv' := [some (.ref 1001), some (.int (Int32.ofNat k)), some (.int v), none]) (st' := [.int (Int32.ofNat k), .ref 1001]) (h1 := am_h w g) rfl ?_
  refine am_R.cv (a := 1001) (as' := [.int (Int32.ofNat k)]) (r := []) (v := none) (h1 := am_h w g) (pc' := 5) rfl rfl rfl rfl (am_wf 1 (by decide) h1) rfl rfl (aw_k9a (d + 1) _ _ (aw_nn k) ((am_ltN (n := 3) (by omega) (by decide)).mpr hk)) rfl ?_
  refine am_R.ites 2 (P := v < 0) (T := 14) (F := 9) (lv' := [some (.ref 1001), some (.int (Int32.ofNat k)), some (.int v), none]) (st' := []) (h1 := am_h w g) rfl (fun c1 => ?_) (fun c1 => ?_)
  · exact absurd c1 h5
  · refine am_R.ites 3 (P := v ≤ 3) (T := 24) (F := 14) (lv' := [some (.ref 1001), some (.int (Int32.ofNat k)), some (.int v), none]) (st' := []) (h1 := am_h w g) rfl (fun c2 => ?_) (fun c2 => ?_)
    · refine am_R.nxs 2 (pc' := 26) (lv' := [some (.ref 1001), some (.int (Int32.ofNat k)), some (.int v), none]) (st' := [.int (Int32.ofNat k), .ref 1001]) (h1 := am_h w g) rfl ?_
      exact am_R.cvp (a := 1001) (as' := [.int (Int32.ofNat k)]) (r := []) rfl rfl rfl rfl (am_wf 1 (by decide) h1) rfl rfl (aw_k69b d h1 h4 hl hk hr hrs hT hd) rfl
    · exact absurd h6 c2
theorem aw_k81d {w : Nat → am_C} {g : am_H} (d : Nat) {tl pl sp : Nat} (h1 : w 1 = aw_c1 tl pl sp) {k : Nat} (hk : k < 3) (v : Int32) (hv : v < 0 ∨ ¬ v ≤ 3) : am_R (d + 2) 81 0 [some (.ref 1001), some (.int (Int32.ofNat k)), some (.int v), none] [] (am_h w g) (.inr (1000 + (am_h w g).length)) (am_h w (g ++ [.inl (10, [])])) := by
  refine am_R.nxs 2 (pc' := 2) (lv' := [some (.ref 1001), some (.int (Int32.ofNat k)), some (.int v), none]) (st' := [.int (Int32.ofNat k), .ref 1001]) (h1 := am_h w g) rfl ?_
  refine am_R.cv (a := 1001) (as' := [.int (Int32.ofNat k)]) (r := []) (v := none) (h1 := am_h w g) (pc' := 5) rfl rfl rfl rfl (am_wf 1 (by decide) h1) rfl rfl (aw_k9a (d + 1) _ _ (aw_nn k) ((am_ltN (n := 3) (by omega) (by decide)).mpr hk)) rfl ?_
  refine am_R.ites 2 (P := v < 0) (T := 14) (F := 9) (lv' := [some (.ref 1001), some (.int (Int32.ofNat k)), some (.int v), none]) (st' := []) (h1 := am_h w g) rfl (fun c1 => ?_) (fun c1 => ?_)
  · exact am_R.tw rfl rfl
  · refine am_R.ites 3 (P := v ≤ 3) (T := 24) (F := 14) (lv' := [some (.ref 1001), some (.int (Int32.ofNat k)), some (.int v), none]) (st' := []) (h1 := am_h w g) rfl (fun c2 => ?_) (fun c2 => ?_)
    · exact absurd hv (fun q => q.elim c1 (fun q => q c2))
    · exact am_R.tw rfl rfl
theorem aw_k81c {w : Nat → am_C} {g : am_H} (d : Nat) {tl pl sp : Nat} (h1 : w 1 = aw_c1 tl pl sp) (s v : Int32) (hs : s < 0 ∨ ¬ s < 3) : am_R (d + 2) 81 0 [some (.ref 1001), some (.int s), some (.int v), none] [] (am_h w g) (.inr (1000 + (am_h w g).length)) (am_h w (g ++ [.inl (8, [])])) := by
  refine am_R.nxs 2 (pc' := 2) (lv' := [some (.ref 1001), some (.int s), some (.int v), none]) (st' := [.int s, .ref 1001]) (h1 := am_h w g) rfl ?_
  exact am_R.cvp (a := 1001) (as' := [.int s]) (r := []) rfl rfl rfl rfl (am_wf 1 (by decide) h1) rfl rfl (aw_k9b (d + 1) _ s hs) rfl
end
section
/-! The reference's refusals and short answers; the wrappers of the law; its cases. -/
theorem am_mul (a n : Nat) : Int32.ofNat a * Int32.ofNat n = Int32.ofNat (a * n) := (Int32.ofNat_mul ..).symm
theorem aw_thrown {w : Nat → am_C} {g : am_H} {x : Nat} : am_at (am_h w (g ++ [.inl (x, [])])) (1000 + (am_h w g).length) = some (.inl (x, [])) := by
  rw [am_h_len, show 1000 + (45 + g.length) = 1045 + g.length by omega]
  exact am_gfn _ (by rw [List.getElem?_append_right (Nat.le_refl _), Nat.sub_self]; rfl)
theorem aw_cmp (x : Int64) : lg_cmp x x = 0 := by
  unfold lg_cmp
  simp
theorem aw_k99a {w : Nat → am_C} {g : am_H} (d : Nat) {ft ty wr wd wt sn : Int32} (h21 : w 21 = aw_c21 ft ty wr wd wt sn) (q : Int32) (hq : q ≤ 0) : am_R (d) 99 0 [some (.ref 1021), some (.int q)] [] (am_h w g) (.inl (some (.int 0))) (am_h (am_pu w 21 (aw_c21 q ty wr wd wt sn)) g) := by
  refine am_R.nxs 2 (pc' := 2) (lv' := [some (.ref 1021), some (.int q)]) (st' := [.int q, .ref 1021]) (h1 := am_h w g) rfl ?_
  refine am_R.pf (k := 0) (pc' := 5) rfl (am_wf 21 (by decide) h21) rfl (Nat.le_of_ble_eq_true rfl) rfl (fun q => by cases q) (am_ws (k := 21) (by decide) (by decide)) rfl ?_
  refine am_R.ites 2 (P := q ≤ 0) (T := 13) (F := 9) (lv' := [some (.ref 1021), some (.int q)]) (st' := []) (h1 := am_h (am_pu w 21 (aw_c21 q ty wr wd wt sn)) g) rfl (fun c1 => ?_) (fun c1 => ?_)
  · refine am_R.nxs 1 (pc' := 14) (lv' := [some (.ref 1021), some (.int q)]) (st' := [.int 0]) (h1 := am_h (am_pu w 21 (aw_c21 q ty wr wd wt sn)) g) rfl ?_
    exact am_R.reti rfl rfl rfl
  · exact absurd hq c1
theorem aw_k99b {w : Nat → am_C} {g : am_H} (d : Nat) {ft ty wr wd wt sn : Int32} (h21 : w 21 = aw_c21 ft ty wr wd wt sn) (q : Int32) (hq : ¬ q ≤ 0) : am_R (d) 99 0 [some (.ref 1021), some (.int q)] [] (am_h w g) (.inl (some (.int 1))) (am_h (am_pu w 21 (aw_c21 q ty wr wd wt sn)) g) := by
  refine am_R.nxs 2 (pc' := 2) (lv' := [some (.ref 1021), some (.int q)]) (st' := [.int q, .ref 1021]) (h1 := am_h w g) rfl ?_
  refine am_R.pf (k := 0) (pc' := 5) rfl (am_wf 21 (by decide) h21) rfl (Nat.le_of_ble_eq_true rfl) rfl (fun q => by cases q) (am_ws (k := 21) (by decide) (by decide)) rfl ?_
  refine am_R.ites 2 (P := q ≤ 0) (T := 13) (F := 9) (lv' := [some (.ref 1021), some (.int q)]) (st' := []) (h1 := am_h (am_pu w 21 (aw_c21 q ty wr wd wt sn)) g) rfl (fun c1 => ?_) (fun c1 => ?_)
  · exact absurd c1 hq
  · refine am_R.nxs 2 (pc' := 14) (lv' := [some (.ref 1021), some (.int q)]) (st' := [.int 1]) (h1 := am_h (am_pu w 21 (aw_c21 q ty wr wd wt sn)) g) rfl ?_
    exact am_R.reti rfl rfl rfl
theorem aw_k133a {w : Nat → am_C} {g : am_H} (d : Nat) {ft ty wr wd wt sn : Int32} (h21 : w 21 = aw_c21 ft ty wr wd wt sn) {ma : List Int32} (h27 : w 27 = am_I 0 ma) (l27 : ma.length = 3) {k : Nat} (hk : k < 3) (hm : ¬ ma.getD k 0 = 0) : am_R (d) 133 0 [some (.ref 1021), some (.int (Int32.ofNat k)), some (.int 1)] [] (am_h w g) (.inl (some (.int 0))) (am_h w g) := by
  refine am_R.ites 2 (P := Int32.ofNat k < 0) (T := 13) (F := 4) (lv' := [some (.ref 1021), some (.int (Int32.ofNat k)), some (.int 1)]) (st' := []) (h1 := am_h w g) rfl (fun c1 => ?_) (fun c1 => ?_)
  · exact absurd c1 (aw_nn k)
  · refine am_R.ites 3 (P := 2 < Int32.ofNat k) (T := 13) (F := 9) (lv' := [some (.ref 1021), some (.int (Int32.ofNat k)), some (.int 1)]) (st' := []) (h1 := am_h w g) rfl (fun c2 => ?_) (fun c2 => ?_)
    · exact absurd c2 (Int32.not_lt.mpr ((am_leN (n := 2) (by omega) (by decide)).mpr (by omega)))
    · refine am_R.ites 2 (P := ¬ 1 = 0) (T := 17) (F := 13) (lv' := [some (.ref 1021), some (.int (Int32.ofNat k)), some (.int 1)]) (st' := []) (h1 := am_h w g) rfl (fun c3 => ?_) (fun c3 => ?_)
      · refine am_R.nxs 1 (pc' := 18) (lv' := [some (.ref 1021), some (.int (Int32.ofNat k)), some (.int 1)]) (st' := [.ref 1021]) (h1 := am_h w g) rfl ?_
        refine am_R.gf (pc' := 21) (v := .ref 1027) rfl (am_wf 21 (by decide) h21) rfl rfl rfl ?_
        refine am_R.nxs 1 (pc' := 22) (lv' := [some (.ref 1021), some (.int (Int32.ofNat k)), some (.int 1)]) (st' := [.int (Int32.ofNat k), .ref 1027]) (h1 := am_h w g) rfl ?_
        refine am_R.ldi (i := k) (xs := ma) (pc' := 23) rfl (am_wf 27 (by decide) h27) (by omega) (by omega) rfl ?_
        refine am_R.ites 1 (P := ¬ (ma.getD k 0) = 0) (T := 30) (F := 26) (lv' := [some (.ref 1021), some (.int (Int32.ofNat k)), some (.int 1)]) (st' := []) (h1 := am_h w g) rfl (fun c4 => ?_) (fun c4 => ?_)
        · refine am_R.nxs 1 (pc' := 31) (lv' := [some (.ref 1021), some (.int (Int32.ofNat k)), some (.int 1)]) (st' := [.int 0]) (h1 := am_h w g) rfl ?_
          exact am_R.reti rfl rfl rfl
        · exact absurd hm c4
      · exact absurd (by decide) c3
theorem aw_k133b {w : Nat → am_C} {g : am_H} (d : Nat) {ft ty wr wd wt sn : Int32} (h21 : w 21 = aw_c21 ft ty wr wd wt sn) {ma : List Int32} (h27 : w 27 = am_I 0 ma) (l27 : ma.length = 3) {k : Nat} (hk : k < 3) (hm : ma.getD k 0 = 0) : am_R (d) 133 0 [some (.ref 1021), some (.int (Int32.ofNat k)), some (.int 1)] [] (am_h w g) (.inl (some (.int 2))) (am_h w g) := by
  refine am_R.ites 2 (P := Int32.ofNat k < 0) (T := 13) (F := 4) (lv' := [some (.ref 1021), some (.int (Int32.ofNat k)), some (.int 1)]) (st' := []) (h1 := am_h w g) rfl (fun c1 => ?_) (fun c1 => ?_)
  · exact absurd c1 (aw_nn k)
  · refine am_R.ites 3 (P := 2 < Int32.ofNat k) (T := 13) (F := 9) (lv' := [some (.ref 1021), some (.int (Int32.ofNat k)), some (.int 1)]) (st' := []) (h1 := am_h w g) rfl (fun c2 => ?_) (fun c2 => ?_)
    · exact absurd c2 (Int32.not_lt.mpr ((am_leN (n := 2) (by omega) (by decide)).mpr (by omega)))
    · refine am_R.ites 2 (P := ¬ 1 = 0) (T := 17) (F := 13) (lv' := [some (.ref 1021), some (.int (Int32.ofNat k)), some (.int 1)]) (st' := []) (h1 := am_h w g) rfl (fun c3 => ?_) (fun c3 => ?_)
      · refine am_R.nxs 1 (pc' := 18) (lv' := [some (.ref 1021), some (.int (Int32.ofNat k)), some (.int 1)]) (st' := [.ref 1021]) (h1 := am_h w g) rfl ?_
        refine am_R.gf (pc' := 21) (v := .ref 1027) rfl (am_wf 21 (by decide) h21) rfl rfl rfl ?_
        refine am_R.nxs 1 (pc' := 22) (lv' := [some (.ref 1021), some (.int (Int32.ofNat k)), some (.int 1)]) (st' := [.int (Int32.ofNat k), .ref 1027]) (h1 := am_h w g) rfl ?_
        refine am_R.ldi (i := k) (xs := ma) (pc' := 23) rfl (am_wf 27 (by decide) h27) (by omega) (by omega) rfl ?_
        refine am_R.ites 1 (P := ¬ (ma.getD k 0) = 0) (T := 30) (F := 26) (lv' := [some (.ref 1021), some (.int (Int32.ofNat k)), some (.int 1)]) (st' := []) (h1 := am_h w g) rfl (fun c4 => ?_) (fun c4 => ?_)
        · exact absurd hm c4
        · refine am_R.nxs 2 (pc' := 31) (lv' := [some (.ref 1021), some (.int (Int32.ofNat k)), some (.int 1)]) (st' := [.int 2]) (h1 := am_h w g) rfl ?_
          exact am_R.reti rfl rfl rfl
      · exact absurd (by decide) c3
theorem aw_k133c {w : Nat → am_C} {g : am_H} (d : Nat) {ft ty wr wd wt sn : Int32} (h21 : w 21 = aw_c21 ft ty wr wd wt sn) (s t : Int32) (hs : s < 0 ∨ 2 < s ∨ t = 0) : am_R (d) 133 0 [some (.ref 1021), some (.int s), some (.int t)] [] (am_h w g) (.inl (some (.int 1))) (am_h w g) := by
  refine am_R.ites 2 (P := s < 0) (T := 13) (F := 4) (lv' := [some (.ref 1021), some (.int s), some (.int t)]) (st' := []) (h1 := am_h w g) rfl (fun c1 => ?_) (fun c1 => ?_)
  · refine am_R.nxs 2 (pc' := 31) (lv' := [some (.ref 1021), some (.int s), some (.int t)]) (st' := [.int 1]) (h1 := am_h w g) rfl ?_
    exact am_R.reti rfl rfl rfl
  · refine am_R.ites 3 (P := 2 < s) (T := 13) (F := 9) (lv' := [some (.ref 1021), some (.int s), some (.int t)]) (st' := []) (h1 := am_h w g) rfl (fun c2 => ?_) (fun c2 => ?_)
    · refine am_R.nxs 2 (pc' := 31) (lv' := [some (.ref 1021), some (.int s), some (.int t)]) (st' := [.int 1]) (h1 := am_h w g) rfl ?_
      exact am_R.reti rfl rfl rfl
    · refine am_R.ites 2 (P := ¬ t = 0) (T := 17) (F := 13) (lv' := [some (.ref 1021), some (.int s), some (.int t)]) (st' := []) (h1 := am_h w g) rfl (fun c3 => ?_) (fun c3 => ?_)
      · exact absurd hs (fun q => q.elim c1 (fun q => q.elim c2 c3))
      · refine am_R.nxs 2 (pc' := 31) (lv' := [some (.ref 1021), some (.int s), some (.int t)]) (st' := [.int 1]) (h1 := am_h w g) rfl ?_
        exact am_R.reti rfl rfl rfl
theorem aw_k138a {w : Nat → am_C} {g : am_H} (d : Nat) {ft ty wr wd wt sn : Int32} (h21 : w 21 = aw_c21 ft ty wr wd wt sn) {ma : List Int32} (h27 : w 27 = am_I 0 ma) (l27 : ma.length = 3) {k : Nat} (hk : k < 3) (hm : ¬ ma.getD k 0 = 0)  {bk : List Int32} (h30 : w 30 = am_I 0 bk) (l30 : bk.length = 3) : am_R (d + 1) 138 0 [some (.ref 1021), some (.int (Int32.ofNat k))] [] (am_h w g) (.inl (some (.int (bk.getD k 0)))) (am_h (am_pu w 21 (aw_c21 0 ty wr wd wt sn)) g) := by
  refine am_R.nxs 4 (pc' := 4) (lv' := [some (.ref 1021), some (.int (Int32.ofNat k))]) (st' := [.int 1, .int (Int32.ofNat k), .ref 1021, .ref 1021]) (h1 := am_h w g) rfl ?_
  refine am_R.cv (a := 1021) (as' := [.int (Int32.ofNat k), .int 1]) (r := [.ref 1021]) (v := some (.int 0)) (h1 := am_h w g) (pc' := 7) rfl rfl rfl rfl (am_wf 21 (by decide) h21) rfl rfl (aw_k133a d h21 h27 l27 hk hm) rfl ?_
  refine am_R.cv (a := 1021) (as' := [.int 0]) (r := []) (v := some (.int 0)) (h1 := am_h (am_pu w 21 (aw_c21 0 ty wr wd wt sn)) g) (pc' := 10) rfl rfl rfl rfl (am_wf 21 (by decide) h21) rfl rfl (aw_k99a (w := w) d h21 0 (by decide)) rfl ?_
  refine am_R.ites 1 (P := 0 = 0) (T := 17) (F := 13) (lv' := [some (.ref 1021), some (.int (Int32.ofNat k))]) (st' := []) (h1 := am_h (am_pu w 21 (aw_c21 0 ty wr wd wt sn)) g) rfl (fun c1 => ?_) (fun c1 => ?_)
  · refine am_R.nxs 1 (pc' := 18) (lv' := [some (.ref 1021), some (.int (Int32.ofNat k))]) (st' := [.ref 1021]) (h1 := am_h (am_pu w 21 (aw_c21 0 ty wr wd wt sn)) g) rfl ?_
    refine am_R.gf (pc' := 21) (v := .ref 1030) rfl (am_wf 21 (by decide) (rfl : (am_pu w 21 (aw_c21 0 ty wr wd wt sn)) 21 = _)) rfl rfl rfl ?_
    refine am_R.nxs 1 (pc' := 22) (lv' := [some (.ref 1021), some (.int (Int32.ofNat k))]) (st' := [.int (Int32.ofNat k), .ref 1030]) (h1 := am_h (am_pu w 21 (aw_c21 0 ty wr wd wt sn)) g) rfl ?_
    refine am_R.ldi (i := k) (xs := bk) (pc' := 23) rfl (am_wf 30 (by decide) h30) (by omega) (by omega) rfl ?_
    exact am_R.reti rfl rfl rfl
  · exact absurd rfl c1
theorem aw_k138b {w : Nat → am_C} {g : am_H} (d : Nat) {ft ty wr wd wt sn : Int32} (h21 : w 21 = aw_c21 ft ty wr wd wt sn) {ma : List Int32} (h27 : w 27 = am_I 0 ma) (l27 : ma.length = 3) {k : Nat} (hk : k < 3) (hm : ma.getD k 0 = 0)  : am_R (d + 1) 138 0 [some (.ref 1021), some (.int (Int32.ofNat k))] [] (am_h w g) (.inl (some (.int 0))) (am_h (am_pu w 21 (aw_c21 2 ty wr wd wt sn)) g) := by
  refine am_R.nxs 4 (pc' := 4) (lv' := [some (.ref 1021), some (.int (Int32.ofNat k))]) (st' := [.int 1, .int (Int32.ofNat k), .ref 1021, .ref 1021]) (h1 := am_h w g) rfl ?_
  refine am_R.cv (a := 1021) (as' := [.int (Int32.ofNat k), .int 1]) (r := [.ref 1021]) (v := some (.int 2)) (h1 := am_h w g) (pc' := 7) rfl rfl rfl rfl (am_wf 21 (by decide) h21) rfl rfl (aw_k133b d h21 h27 l27 hk hm) rfl ?_
  refine am_R.cv (a := 1021) (as' := [.int 2]) (r := []) (v := some (.int 1)) (h1 := am_h (am_pu w 21 (aw_c21 2 ty wr wd wt sn)) g) (pc' := 10) rfl rfl rfl rfl (am_wf 21 (by decide) h21) rfl rfl (aw_k99b (w := w) d h21 2 (by decide)) rfl ?_
  refine am_R.ites 1 (P := 1 = 0) (T := 17) (F := 13) (lv' := [some (.ref 1021), some (.int (Int32.ofNat k))]) (st' := []) (h1 := am_h (am_pu w 21 (aw_c21 2 ty wr wd wt sn)) g) rfl (fun c1 => ?_) (fun c1 => ?_)
  · exact absurd c1 (by decide)
  · refine am_R.nxs 2 (pc' := 23) (lv' := [some (.ref 1021), some (.int (Int32.ofNat k))]) (st' := [.int 0]) (h1 := am_h (am_pu w 21 (aw_c21 2 ty wr wd wt sn)) g) rfl ?_
    exact am_R.reti rfl rfl rfl
theorem aw_k138c {w : Nat → am_C} {g : am_H} (d : Nat) {ft ty wr wd wt sn : Int32} (h21 : w 21 = aw_c21 ft ty wr wd wt sn) (s : Int32) (hs : s < 0 ∨ 2 < s) : am_R (d + 1) 138 0 [some (.ref 1021), some (.int s)] [] (am_h w g) (.inl (some (.int 0))) (am_h (am_pu w 21 (aw_c21 1 ty wr wd wt sn)) g) := by
  refine am_R.nxs 4 (pc' := 4) (lv' := [some (.ref 1021), some (.int s)]) (st' := [.int 1, .int s, .ref 1021, .ref 1021]) (h1 := am_h w g) rfl ?_
  refine am_R.cv (a := 1021) (as' := [.int s, .int 1]) (r := [.ref 1021]) (v := some (.int 1)) (h1 := am_h w g) (pc' := 7) rfl rfl rfl rfl (am_wf 21 (by decide) h21) rfl rfl (aw_k133c d h21 s 1 (hs.elim Or.inl (fun q => Or.inr (Or.inl q)))) rfl ?_
  refine am_R.cv (a := 1021) (as' := [.int 1]) (r := []) (v := some (.int 1)) (h1 := am_h (am_pu w 21 (aw_c21 1 ty wr wd wt sn)) g) (pc' := 10) rfl rfl rfl rfl (am_wf 21 (by decide) h21) rfl rfl (aw_k99b (w := w) d h21 1 (by decide)) rfl ?_
  refine am_R.ites 1 (P := 1 = 0) (T := 17) (F := 13) (lv' := [some (.ref 1021), some (.int s)]) (st' := []) (h1 := am_h (am_pu w 21 (aw_c21 1 ty wr wd wt sn)) g) rfl (fun c1 => ?_) (fun c1 => ?_)
  · exact absurd c1 (by decide)
  · refine am_R.nxs 2 (pc' := 23) (lv' := [some (.ref 1021), some (.int s)]) (st' := [.int 0]) (h1 := am_h (am_pu w 21 (aw_c21 1 ty wr wd wt sn)) g) rfl ?_
    exact am_R.reti rfl rfl rfl
theorem aw_k139a {w : Nat → am_C} {g : am_H} (d : Nat) {ft ty wr wd wt sn : Int32} (h21 : w 21 = aw_c21 ft ty wr wd wt sn) {ma : List Int32} (h27 : w 27 = am_I 0 ma) (l27 : ma.length = 3) {k : Nat} (hk : k < 3) (hm : ¬ ma.getD k 0 = 0) {bk : List Int32} (h30 : w 30 = am_I 0 bk) (l30 : bk.length = 3) {br : List Int32} (h29 : w 29 = am_I 0 br) (l29 : br.length = 120) {b : Nat} (hb : bk.getD k 0 = Int32.ofNat b) (hb2 : b ≤ 40) (i : Nat) (hi : i < b) : am_R (d + 1) 139 0 [some (.ref 1021), some (.int (Int32.ofNat k)), some (.int (Int32.ofNat i))] [] (am_h w g) (.inl (some (.int (br.getD (40 * k + i) 0)))) (am_h (am_pu w 21 (aw_c21 0 ty wr wd wt sn)) g) := by
  refine am_R.nxs 4 (pc' := 4) (lv' := [some (.ref 1021), some (.int (Int32.ofNat k)), some (.int (Int32.ofNat i))]) (st' := [.int 1, .int (Int32.ofNat k), .ref 1021, .ref 1021]) (h1 := am_h w g) rfl ?_
  refine am_R.cv (a := 1021) (as' := [.int (Int32.ofNat k), .int 1]) (r := [.ref 1021]) (v := some (.int 0)) (h1 := am_h w g) (pc' := 7) rfl rfl rfl rfl (am_wf 21 (by decide) h21) rfl rfl (aw_k133a d h21 h27 l27 hk hm) rfl ?_
  refine am_R.cv (a := 1021) (as' := [.int 0]) (r := []) (v := some (.int 0)) (h1 := am_h (am_pu w 21 (aw_c21 0 ty wr wd wt sn)) g) (pc' := 10) rfl rfl rfl rfl (am_wf 21 (by decide) h21) rfl rfl (aw_k99a (w := w) d h21 0 (by decide)) rfl ?_
  refine am_R.ites 1 (P := 0 = 0) (T := 15) (F := 13) (lv' := [some (.ref 1021), some (.int (Int32.ofNat k)), some (.int (Int32.ofNat i))]) (st' := []) (h1 := am_h (am_pu w 21 (aw_c21 0 ty wr wd wt sn)) g) rfl (fun c1 => ?_) (fun c1 => ?_)
  · refine am_R.ites 2 (P := Int32.ofNat i < 0) (T := 29) (F := 19) (lv' := [some (.ref 1021), some (.int (Int32.ofNat k)), some (.int (Int32.ofNat i))]) (st' := []) (h1 := am_h (am_pu w 21 (aw_c21 0 ty wr wd wt sn)) g) rfl (fun c2 => ?_) (fun c2 => ?_)
    · exact absurd c2 (aw_nn i)
    · refine am_R.nxs 2 (pc' := 21) (lv' := [some (.ref 1021), some (.int (Int32.ofNat k)), some (.int (Int32.ofNat i))]) (st' := [.ref 1021, .int (Int32.ofNat i)]) (h1 := am_h (am_pu w 21 (aw_c21 0 ty wr wd wt sn)) g) rfl ?_
      refine am_R.gf (pc' := 24) (v := .ref 1030) rfl (am_wf 21 (by decide) (rfl : (am_pu w 21 (aw_c21 0 ty wr wd wt sn)) 21 = _)) rfl rfl rfl ?_
      refine am_R.nxs 1 (pc' := 25) (lv' := [some (.ref 1021), some (.int (Int32.ofNat k)), some (.int (Int32.ofNat i))]) (st' := [.int (Int32.ofNat k), .ref 1030, .int (Int32.ofNat i)]) (h1 := am_h (am_pu w 21 (aw_c21 0 ty wr wd wt sn)) g) rfl ?_
      refine am_R.ldi (i := k) (xs := bk) (pc' := 26) rfl (am_wf 30 (by decide) h30) (by omega) (by omega) rfl ?_
      rw [hb]
      refine am_R.ites 1 (P := Int32.ofNat i < Int32.ofNat b) (T := 33) (F := 29) (lv' := [some (.ref 1021), some (.int (Int32.ofNat k)), some (.int (Int32.ofNat i))]) (st' := []) (h1 := am_h (am_pu w 21 (aw_c21 0 ty wr wd wt sn)) g) rfl (fun c3 => ?_) (fun c3 => ?_)
      · have c3 : i < b := (am_ltN (i := i) (n := b) (by omega) (by omega)).mp c3
        refine am_R.nxs 1 (pc' := 34) (lv' := [some (.ref 1021), some (.int (Int32.ofNat k)), some (.int (Int32.ofNat i))]) (st' := [.ref 1021]) (h1 := am_h (am_pu w 21 (aw_c21 0 ty wr wd wt sn)) g) rfl ?_
        refine am_R.gf (pc' := 37) (v := .ref 1029) rfl (am_wf 21 (by decide) (rfl : (am_pu w 21 (aw_c21 0 ty wr wd wt sn)) 21 = _)) rfl rfl rfl ?_
        refine am_R.nxs 3 (pc' := 41) (lv' := [some (.ref 1021), some (.int (Int32.ofNat k)), some (.int (Int32.ofNat i))]) (st' := [.int (40 * Int32.ofNat k), .ref 1029]) (h1 := am_h (am_pu w 21 (aw_c21 0 ty wr wd wt sn)) g) rfl ?_
        rw [show (40 * Int32.ofNat k : Int32) = Int32.ofNat (40 * k) from am_mul 40 k]
        refine am_R.nxs 2 (pc' := 43) (lv' := [some (.ref 1021), some (.int (Int32.ofNat k)), some (.int (Int32.ofNat i))]) (st' := [.int (Int32.ofNat (40 * k) + Int32.ofNat i), .ref 1029]) (h1 := am_h (am_pu w 21 (aw_c21 0 ty wr wd wt sn)) g) rfl ?_
        rw [show (Int32.ofNat (40 * k) + Int32.ofNat i : Int32) = Int32.ofNat ((40 * k) + i) from am_add (40 * k) i]
        refine am_R.ldi (i := ((40 * k) + i)) (xs := br) (pc' := 44) rfl (am_wf 29 (by decide) h29) (by omega) (by omega) rfl ?_
        exact am_R.reti rfl rfl rfl
      · have c3 : ¬ i < b := fun hq9 => c3 ((am_ltN (i := i) (n := b) (by omega) (by omega)).mpr hq9)
        omega
  · exact absurd rfl c1
theorem aw_k139e {w : Nat → am_C} {g : am_H} (d : Nat) {ft ty wr wd wt sn : Int32} (h21 : w 21 = aw_c21 ft ty wr wd wt sn) {ma : List Int32} (h27 : w 27 = am_I 0 ma) (l27 : ma.length = 3) {k : Nat} (hk : k < 3) (hm : ¬ ma.getD k 0 = 0) {bk : List Int32} (h30 : w 30 = am_I 0 bk) (l30 : bk.length = 3) {br : List Int32} (h29 : w 29 = am_I 0 br) (l29 : br.length = 120) {b : Nat} (hb : bk.getD k 0 = Int32.ofNat b) (hb2 : b ≤ 40) (v : Int32) (hv : v < 0 ∨ Int32.ofNat b ≤ v) : am_R (d + 1) 139 0 [some (.ref 1021), some (.int (Int32.ofNat k)), some (.int v)] [] (am_h w g) (.inl (some (.int (-1)))) (am_h (am_pu w 21 (aw_c21 0 ty wr wd wt sn)) g) := by
  refine am_R.nxs 4 (pc' := 4) (lv' := [some (.ref 1021), some (.int (Int32.ofNat k)), some (.int v)]) (st' := [.int 1, .int (Int32.ofNat k), .ref 1021, .ref 1021]) (h1 := am_h w g) rfl ?_
  refine am_R.cv (a := 1021) (as' := [.int (Int32.ofNat k), .int 1]) (r := [.ref 1021]) (v := some (.int 0)) (h1 := am_h w g) (pc' := 7) rfl rfl rfl rfl (am_wf 21 (by decide) h21) rfl rfl (aw_k133a d h21 h27 l27 hk hm) rfl ?_
  refine am_R.cv (a := 1021) (as' := [.int 0]) (r := []) (v := some (.int 0)) (h1 := am_h (am_pu w 21 (aw_c21 0 ty wr wd wt sn)) g) (pc' := 10) rfl rfl rfl rfl (am_wf 21 (by decide) h21) rfl rfl (aw_k99a (w := w) d h21 0 (by decide)) rfl ?_
  refine am_R.ites 1 (P := 0 = 0) (T := 15) (F := 13) (lv' := [some (.ref 1021), some (.int (Int32.ofNat k)), some (.int v)]) (st' := []) (h1 := am_h (am_pu w 21 (aw_c21 0 ty wr wd wt sn)) g) rfl (fun c1 => ?_) (fun c1 => ?_)
  · refine am_R.ites 2 (P := v < 0) (T := 29) (F := 19) (lv' := [some (.ref 1021), some (.int (Int32.ofNat k)), some (.int v)]) (st' := []) (h1 := am_h (am_pu w 21 (aw_c21 0 ty wr wd wt sn)) g) rfl (fun c2 => ?_) (fun c2 => ?_)
    · refine am_R.nxs 2 (pc' := 44) (lv' := [some (.ref 1021), some (.int (Int32.ofNat k)), some (.int v)]) (st' := [.int (-1)]) (h1 := am_h (am_pu w 21 (aw_c21 0 ty wr wd wt sn)) g) rfl ?_
      exact am_R.reti rfl rfl rfl
    · refine am_R.nxs 2 (pc' := 21) (lv' := [some (.ref 1021), some (.int (Int32.ofNat k)), some (.int v)]) (st' := [.ref 1021, .int v]) (h1 := am_h (am_pu w 21 (aw_c21 0 ty wr wd wt sn)) g) rfl ?_
      refine am_R.gf (pc' := 24) (v := .ref 1030) rfl (am_wf 21 (by decide) (rfl : (am_pu w 21 (aw_c21 0 ty wr wd wt sn)) 21 = _)) rfl rfl rfl ?_
      refine am_R.nxs 1 (pc' := 25) (lv' := [some (.ref 1021), some (.int (Int32.ofNat k)), some (.int v)]) (st' := [.int (Int32.ofNat k), .ref 1030, .int v]) (h1 := am_h (am_pu w 21 (aw_c21 0 ty wr wd wt sn)) g) rfl ?_
      refine am_R.ldi (i := k) (xs := bk) (pc' := 26) rfl (am_wf 30 (by decide) h30) (by omega) (by omega) rfl ?_
      rw [hb]
      refine am_R.ites 1 (P := v < Int32.ofNat b) (T := 33) (F := 29) (lv' := [some (.ref 1021), some (.int (Int32.ofNat k)), some (.int v)]) (st' := []) (h1 := am_h (am_pu w 21 (aw_c21 0 ty wr wd wt sn)) g) rfl (fun c3 => ?_) (fun c3 => ?_)
      · exact absurd c3 (fun q => hv.elim c2 (fun q2 => absurd q (Int32.not_lt.mpr q2)))
      · refine am_R.nxs 2 (pc' := 44) (lv' := [some (.ref 1021), some (.int (Int32.ofNat k)), some (.int v)]) (st' := [.int (-1)]) (h1 := am_h (am_pu w 21 (aw_c21 0 ty wr wd wt sn)) g) rfl ?_
        exact am_R.reti rfl rfl rfl
  · exact absurd rfl c1
theorem aw_k139b {w : Nat → am_C} {g : am_H} (d : Nat) {ft ty wr wd wt sn : Int32} (h21 : w 21 = aw_c21 ft ty wr wd wt sn) {ma : List Int32} (h27 : w 27 = am_I 0 ma) (l27 : ma.length = 3) {k : Nat} (hk : k < 3) (hm : ma.getD k 0 = 0) (v : Int32) : am_R (d + 1) 139 0 [some (.ref 1021), some (.int (Int32.ofNat k)), some (.int v)] [] (am_h w g) (.inl (some (.int 0))) (am_h (am_pu w 21 (aw_c21 2 ty wr wd wt sn)) g) := by
  refine am_R.nxs 4 (pc' := 4) (lv' := [some (.ref 1021), some (.int (Int32.ofNat k)), some (.int v)]) (st' := [.int 1, .int (Int32.ofNat k), .ref 1021, .ref 1021]) (h1 := am_h w g) rfl ?_
  refine am_R.cv (a := 1021) (as' := [.int (Int32.ofNat k), .int 1]) (r := [.ref 1021]) (v := some (.int 2)) (h1 := am_h w g) (pc' := 7) rfl rfl rfl rfl (am_wf 21 (by decide) h21) rfl rfl (aw_k133b d h21 h27 l27 hk hm) rfl ?_
  refine am_R.cv (a := 1021) (as' := [.int 2]) (r := []) (v := some (.int 1)) (h1 := am_h (am_pu w 21 (aw_c21 2 ty wr wd wt sn)) g) (pc' := 10) rfl rfl rfl rfl (am_wf 21 (by decide) h21) rfl rfl (aw_k99b (w := w) d h21 2 (by decide)) rfl ?_
  refine am_R.ites 1 (P := 1 = 0) (T := 15) (F := 13) (lv' := [some (.ref 1021), some (.int (Int32.ofNat k)), some (.int v)]) (st' := []) (h1 := am_h (am_pu w 21 (aw_c21 2 ty wr wd wt sn)) g) rfl (fun c1 => ?_) (fun c1 => ?_)
  · exact absurd c1 (by decide)
  · refine am_R.nxs 1 (pc' := 14) (lv' := [some (.ref 1021), some (.int (Int32.ofNat k)), some (.int v)]) (st' := [.int 0]) (h1 := am_h (am_pu w 21 (aw_c21 2 ty wr wd wt sn)) g) rfl ?_
    exact am_R.reti rfl rfl rfl
theorem aw_k139c {w : Nat → am_C} {g : am_H} (d : Nat) {ft ty wr wd wt sn : Int32} (h21 : w 21 = aw_c21 ft ty wr wd wt sn) (s v : Int32) (hs : s < 0 ∨ 2 < s) : am_R (d + 1) 139 0 [some (.ref 1021), some (.int s), some (.int v)] [] (am_h w g) (.inl (some (.int 0))) (am_h (am_pu w 21 (aw_c21 1 ty wr wd wt sn)) g) := by
  refine am_R.nxs 4 (pc' := 4) (lv' := [some (.ref 1021), some (.int s), some (.int v)]) (st' := [.int 1, .int s, .ref 1021, .ref 1021]) (h1 := am_h w g) rfl ?_
  refine am_R.cv (a := 1021) (as' := [.int s, .int 1]) (r := [.ref 1021]) (v := some (.int 1)) (h1 := am_h w g) (pc' := 7) rfl rfl rfl rfl (am_wf 21 (by decide) h21) rfl rfl (aw_k133c d h21 s 1 (hs.elim Or.inl (fun q => Or.inr (Or.inl q)))) rfl ?_
  refine am_R.cv (a := 1021) (as' := [.int 1]) (r := []) (v := some (.int 1)) (h1 := am_h (am_pu w 21 (aw_c21 1 ty wr wd wt sn)) g) (pc' := 10) rfl rfl rfl rfl (am_wf 21 (by decide) h21) rfl rfl (aw_k99b (w := w) d h21 1 (by decide)) rfl ?_
  refine am_R.ites 1 (P := 1 = 0) (T := 15) (F := 13) (lv' := [some (.ref 1021), some (.int s), some (.int v)]) (st' := []) (h1 := am_h (am_pu w 21 (aw_c21 1 ty wr wd wt sn)) g) rfl (fun c1 => ?_) (fun c1 => ?_)
  · exact absurd c1 (by decide)
  · refine am_R.nxs 1 (pc' := 14) (lv' := [some (.ref 1021), some (.int s), some (.int v)]) (st' := [.int 0]) (h1 := am_h (am_pu w 21 (aw_c21 1 ty wr wd wt sn)) g) rfl ?_
    exact am_R.reti rfl rfl rfl
theorem aw_k140a {w : Nat → am_C} {g : am_H} (d : Nat) {ft ty wr wd wt sn : Int32} (h21 : w 21 = aw_c21 ft ty wr wd wt sn) {ma : List Int32} (h27 : w 27 = am_I 0 ma) (l27 : ma.length = 3) {k : Nat} (hk : k < 3) {co : List Int32} (h31 : w 31 = am_I 0 co) (l31 : co.length = 12) (q : Nat) (hq : q < 4) (hm : ¬ ma.getD k 0 = 0) : am_R (d + 1) 140 0 [some (.ref 1021), some (.int (Int32.ofNat k)), some (.int (Int32.ofNat q)), none] [] (am_h w g) (.inl (some (.int (co.getD (4 * k + q) 0)))) (am_h (am_pu w 21 (aw_c21 0 ty wr wd wt sn)) g) := by
  refine am_R.ites 2 (P := Int32.ofNat k < 0) (T := 13) (F := 4) (lv' := [some (.ref 1021), some (.int (Int32.ofNat k)), some (.int (Int32.ofNat q)), none]) (st' := []) (h1 := am_h w g) rfl (fun c1 => ?_) (fun c1 => ?_)
  · exact absurd c1 (aw_nn k)
  · refine am_R.ites 3 (P := 3 ≤ Int32.ofNat k) (T := 13) (F := 9) (lv' := [some (.ref 1021), some (.int (Int32.ofNat k)), some (.int (Int32.ofNat q)), none]) (st' := []) (h1 := am_h w g) rfl (fun c2 => ?_) (fun c2 => ?_)
    · have c2 : 3 ≤ k := (am_leN (i := 3) (n := k) (by omega) (by omega)).mp c2
      omega
    · have c2 : ¬ 3 ≤ k := fun hq9 => c2 ((am_leN (i := 3) (n := k) (by omega) (by omega)).mpr hq9)
      refine am_R.ites 6 (P := ¬ 1 = 0) (T := 24) (F := 20) (lv' := [some (.ref 1021), some (.int (Int32.ofNat k)), some (.int (Int32.ofNat q)), some (.int 1)]) (st' := [.ref 1021]) (h1 := am_h w g) rfl (fun c3 => ?_) (fun c3 => ?_)
      · refine am_R.ites 2 (P := Int32.ofNat q < 0) (T := 33) (F := 28) (lv' := [some (.ref 1021), some (.int (Int32.ofNat k)), some (.int (Int32.ofNat q)), some (.int 1)]) (st' := [.ref 1021]) (h1 := am_h w g) rfl (fun c4 => ?_) (fun c4 => ?_)
        · exact absurd c4 (aw_nn q)
        · refine am_R.ites 3 (P := Int32.ofNat q ≤ 3) (T := 37) (F := 33) (lv' := [some (.ref 1021), some (.int (Int32.ofNat k)), some (.int (Int32.ofNat q)), some (.int 1)]) (st' := [.ref 1021]) (h1 := am_h w g) rfl (fun c5 => ?_) (fun c5 => ?_)
          · have c5 : q ≤ 3 := (am_leN (i := q) (n := 3) (by omega) (by omega)).mp c5
            refine am_R.nxs 1 (pc' := 38) (lv' := [some (.ref 1021), some (.int (Int32.ofNat k)), some (.int (Int32.ofNat q)), some (.int 1)]) (st' := [.ref 1021, .ref 1021]) (h1 := am_h w g) rfl ?_
            refine am_R.gf (pc' := 41) (v := .ref 1027) rfl (am_wf 21 (by decide) h21) rfl rfl rfl ?_
            refine am_R.nxs 1 (pc' := 42) (lv' := [some (.ref 1021), some (.int (Int32.ofNat k)), some (.int (Int32.ofNat q)), some (.int 1)]) (st' := [.int (Int32.ofNat k), .ref 1027, .ref 1021]) (h1 := am_h w g) rfl ?_
            refine am_R.ldi (i := k) (xs := ma) (pc' := 43) rfl (am_wf 27 (by decide) h27) (by omega) (by omega) rfl ?_
            refine am_R.ites 1 (P := ¬ (ma.getD k 0) = 0) (T := 50) (F := 46) (lv' := [some (.ref 1021), some (.int (Int32.ofNat k)), some (.int (Int32.ofNat q)), some (.int 1)]) (st' := [.ref 1021]) (h1 := am_h w g) rfl (fun c6 => ?_) (fun c6 => ?_)
            · refine am_R.nxs 1 (pc' := 51) (lv' := [some (.ref 1021), some (.int (Int32.ofNat k)), some (.int (Int32.ofNat q)), some (.int 1)]) (st' := [.int 0, .ref 1021]) (h1 := am_h w g) rfl ?_
              refine am_R.cv (a := 1021) (as' := [.int 0]) (r := []) (v := some (.int 0)) (h1 := am_h (am_pu w 21 (aw_c21 0 ty wr wd wt sn)) g) (pc' := 54) rfl rfl rfl rfl (am_wf 21 (by decide) h21) rfl rfl (aw_k99a (w := w) d h21 0 (by decide)) rfl ?_
              refine am_R.ites 1 (P := 0 = 0) (T := 59) (F := 57) (lv' := [some (.ref 1021), some (.int (Int32.ofNat k)), some (.int (Int32.ofNat q)), some (.int 1)]) (st' := []) (h1 := am_h (am_pu w 21 (aw_c21 0 ty wr wd wt sn)) g) rfl (fun c7 => ?_) (fun c7 => ?_)
              · refine am_R.nxs 1 (pc' := 60) (lv' := [some (.ref 1021), some (.int (Int32.ofNat k)), some (.int (Int32.ofNat q)), some (.int 1)]) (st' := [.ref 1021]) (h1 := am_h (am_pu w 21 (aw_c21 0 ty wr wd wt sn)) g) rfl ?_
                refine am_R.gf (pc' := 63) (v := .ref 1031) rfl (am_wf 21 (by decide) (rfl : (am_pu w 21 (aw_c21 0 ty wr wd wt sn)) 21 = _)) rfl rfl rfl ?_
                refine am_R.nxs 3 (pc' := 66) (lv' := [some (.ref 1021), some (.int (Int32.ofNat k)), some (.int (Int32.ofNat q)), some (.int 1)]) (st' := [.int (4 * Int32.ofNat k), .ref 1031]) (h1 := am_h (am_pu w 21 (aw_c21 0 ty wr wd wt sn)) g) rfl ?_
                rw [show (4 * Int32.ofNat k : Int32) = Int32.ofNat (4 * k) from am_mul 4 k]
                refine am_R.nxs 2 (pc' := 68) (lv' := [some (.ref 1021), some (.int (Int32.ofNat k)), some (.int (Int32.ofNat q)), some (.int 1)]) (st' := [.int (Int32.ofNat (4 * k) + Int32.ofNat q), .ref 1031]) (h1 := am_h (am_pu w 21 (aw_c21 0 ty wr wd wt sn)) g) rfl ?_
                rw [show (Int32.ofNat (4 * k) + Int32.ofNat q : Int32) = Int32.ofNat ((4 * k) + q) from am_add (4 * k) q]
                refine am_R.ldi (i := ((4 * k) + q)) (xs := co) (pc' := 69) rfl (am_wf 31 (by decide) h31) (by omega) (by omega) rfl ?_
                exact am_R.reti rfl rfl rfl
              · exact absurd rfl c7
            · exact absurd hm c6
          · have c5 : ¬ q ≤ 3 := fun hq9 => c5 ((am_leN (i := q) (n := 3) (by omega) (by omega)).mpr hq9)
            omega
      · exact absurd (by decide) c3
theorem aw_k140b {w : Nat → am_C} {g : am_H} (d : Nat) {ft ty wr wd wt sn : Int32} (h21 : w 21 = aw_c21 ft ty wr wd wt sn) {ma : List Int32} (h27 : w 27 = am_I 0 ma) (l27 : ma.length = 3) {k : Nat} (hk : k < 3) (v : Int32) (h5 : ¬ v < 0) (h6 : v ≤ 3) (hm : ma.getD k 0 = 0) : am_R (d + 1) 140 0 [some (.ref 1021), some (.int (Int32.ofNat k)), some (.int v), none] [] (am_h w g) (.inl (some (.int 0))) (am_h (am_pu w 21 (aw_c21 3 ty wr wd wt sn)) g) := by
  refine am_R.ites 2 (P := Int32.ofNat k < 0) (T := 13) (F := 4) (lv' := [some (.ref 1021), some (.int (Int32.ofNat k)), some (.int v), none]) (st' := []) (h1 := am_h w g) rfl (fun c1 => ?_) (fun c1 => ?_)
  · exact absurd c1 (aw_nn k)
  · refine am_R.ites 3 (P := 3 ≤ Int32.ofNat k) (T := 13) (F := 9) (lv' := [some (.ref 1021), some (.int (Int32.ofNat k)), some (.int v), none]) (st' := []) (h1 := am_h w g) rfl (fun c2 => ?_) (fun c2 => ?_)
    · have c2 : 3 ≤ k := (am_leN (i := 3) (n := k) (by omega) (by omega)).mp c2
      omega
    · have c2 : ¬ 3 ≤ k := fun hq9 => c2 ((am_leN (i := 3) (n := k) (by omega) (by omega)).mpr hq9)
      refine am_R.ites 6 (P := ¬ 1 = 0) (T := 24) (F := 20) (lv' := [some (.ref 1021), some (.int (Int32.ofNat k)), some (.int v), some (.int 1)]) (st' := [.ref 1021]) (h1 := am_h w g) rfl (fun c3 => ?_) (fun c3 => ?_)
      · refine am_R.ites 2 (P := v < 0) (T := 33) (F := 28) (lv' := [some (.ref 1021), some (.int (Int32.ofNat k)), some (.int v), some (.int 1)]) (st' := [.ref 1021]) (h1 := am_h w g) rfl (fun c4 => ?_) (fun c4 => ?_)
        · exact absurd c4 h5
        · refine am_R.ites 3 (P := v ≤ 3) (T := 37) (F := 33) (lv' := [some (.ref 1021), some (.int (Int32.ofNat k)), some (.int v), some (.int 1)]) (st' := [.ref 1021]) (h1 := am_h w g) rfl (fun c5 => ?_) (fun c5 => ?_)
          · refine am_R.nxs 1 (pc' := 38) (lv' := [some (.ref 1021), some (.int (Int32.ofNat k)), some (.int v), some (.int 1)]) (st' := [.ref 1021, .ref 1021]) (h1 := am_h w g) rfl ?_
            refine am_R.gf (pc' := 41) (v := .ref 1027) rfl (am_wf 21 (by decide) h21) rfl rfl rfl ?_
            refine am_R.nxs 1 (pc' := 42) (lv' := [some (.ref 1021), some (.int (Int32.ofNat k)), some (.int v), some (.int 1)]) (st' := [.int (Int32.ofNat k), .ref 1027, .ref 1021]) (h1 := am_h w g) rfl ?_
            refine am_R.ldi (i := k) (xs := ma) (pc' := 43) rfl (am_wf 27 (by decide) h27) (by omega) (by omega) rfl ?_
            refine am_R.ites 1 (P := ¬ (ma.getD k 0) = 0) (T := 50) (F := 46) (lv' := [some (.ref 1021), some (.int (Int32.ofNat k)), some (.int v), some (.int 1)]) (st' := [.ref 1021]) (h1 := am_h w g) rfl (fun c6 => ?_) (fun c6 => ?_)
            · exact absurd hm c6
            · refine am_R.nxs 2 (pc' := 51) (lv' := [some (.ref 1021), some (.int (Int32.ofNat k)), some (.int v), some (.int 1)]) (st' := [.int 3, .ref 1021]) (h1 := am_h w g) rfl ?_
              refine am_R.cv (a := 1021) (as' := [.int 3]) (r := []) (v := some (.int 1)) (h1 := am_h (am_pu w 21 (aw_c21 3 ty wr wd wt sn)) g) (pc' := 54) rfl rfl rfl rfl (am_wf 21 (by decide) h21) rfl rfl (aw_k99b (w := w) d h21 3 (by decide)) rfl ?_
              refine am_R.ites 1 (P := 1 = 0) (T := 59) (F := 57) (lv' := [some (.ref 1021), some (.int (Int32.ofNat k)), some (.int v), some (.int 1)]) (st' := []) (h1 := am_h (am_pu w 21 (aw_c21 3 ty wr wd wt sn)) g) rfl (fun c7 => ?_) (fun c7 => ?_)
              · exact absurd c7 (by decide)
              · refine am_R.nxs 1 (pc' := 58) (lv' := [some (.ref 1021), some (.int (Int32.ofNat k)), some (.int v), some (.int 1)]) (st' := [.int 0]) (h1 := am_h (am_pu w 21 (aw_c21 3 ty wr wd wt sn)) g) rfl ?_
                exact am_R.reti rfl rfl rfl
          · exact absurd h6 c5
      · exact absurd (by decide) c3
theorem aw_k140d {w : Nat → am_C} {g : am_H} (d : Nat) {ft ty wr wd wt sn : Int32} (h21 : w 21 = aw_c21 ft ty wr wd wt sn) {k : Nat} (hk : k < 3) (v : Int32) (hv : v < 0 ∨ ¬ v ≤ 3) : am_R (d + 1) 140 0 [some (.ref 1021), some (.int (Int32.ofNat k)), some (.int v), none] [] (am_h w g) (.inl (some (.int 0))) (am_h (am_pu w 21 (aw_c21 2 ty wr wd wt sn)) g) := by
  refine am_R.ites 2 (P := Int32.ofNat k < 0) (T := 13) (F := 4) (lv' := [some (.ref 1021), some (.int (Int32.ofNat k)), some (.int v), none]) (st' := []) (h1 := am_h w g) rfl (fun c1 => ?_) (fun c1 => ?_)
  · exact absurd c1 (aw_nn k)
  · refine am_R.ites 3 (P := 3 ≤ Int32.ofNat k) (T := 13) (F := 9) (lv' := [some (.ref 1021), some (.int (Int32.ofNat k)), some (.int v), none]) (st' := []) (h1 := am_h w g) rfl (fun c2 => ?_) (fun c2 => ?_)
    · have c2 : 3 ≤ k := (am_leN (i := 3) (n := k) (by omega) (by omega)).mp c2
      omega
    · have c2 : ¬ 3 ≤ k := fun hq9 => c2 ((am_leN (i := 3) (n := k) (by omega) (by omega)).mpr hq9)
      refine am_R.ites 6 (P := ¬ 1 = 0) (T := 24) (F := 20) (lv' := [some (.ref 1021), some (.int (Int32.ofNat k)), some (.int v), some (.int 1)]) (st' := [.ref 1021]) (h1 := am_h w g) rfl (fun c3 => ?_) (fun c3 => ?_)
      · refine am_R.ites 2 (P := v < 0) (T := 33) (F := 28) (lv' := [some (.ref 1021), some (.int (Int32.ofNat k)), some (.int v), some (.int 1)]) (st' := [.ref 1021]) (h1 := am_h w g) rfl (fun c4 => ?_) (fun c4 => ?_)
        · refine am_R.nxs 2 (pc' := 51) (lv' := [some (.ref 1021), some (.int (Int32.ofNat k)), some (.int v), some (.int 1)]) (st' := [.int 2, .ref 1021]) (h1 := am_h w g) rfl ?_
          refine am_R.cv (a := 1021) (as' := [.int 2]) (r := []) (v := some (.int 1)) (h1 := am_h (am_pu w 21 (aw_c21 2 ty wr wd wt sn)) g) (pc' := 54) rfl rfl rfl rfl (am_wf 21 (by decide) h21) rfl rfl (aw_k99b (w := w) d h21 2 (by decide)) rfl ?_
          refine am_R.ites 1 (P := 1 = 0) (T := 59) (F := 57) (lv' := [some (.ref 1021), some (.int (Int32.ofNat k)), some (.int v), some (.int 1)]) (st' := []) (h1 := am_h (am_pu w 21 (aw_c21 2 ty wr wd wt sn)) g) rfl (fun c5 => ?_) (fun c5 => ?_)
          · exact absurd c5 (by decide)
          · refine am_R.nxs 1 (pc' := 58) (lv' := [some (.ref 1021), some (.int (Int32.ofNat k)), some (.int v), some (.int 1)]) (st' := [.int 0]) (h1 := am_h (am_pu w 21 (aw_c21 2 ty wr wd wt sn)) g) rfl ?_
            exact am_R.reti rfl rfl rfl
        · refine am_R.ites 3 (P := v ≤ 3) (T := 37) (F := 33) (lv' := [some (.ref 1021), some (.int (Int32.ofNat k)), some (.int v), some (.int 1)]) (st' := [.ref 1021]) (h1 := am_h w g) rfl (fun c6 => ?_) (fun c6 => ?_)
          · exact absurd hv (fun q => q.elim c4 (fun q => q c6))
          · refine am_R.nxs 2 (pc' := 51) (lv' := [some (.ref 1021), some (.int (Int32.ofNat k)), some (.int v), some (.int 1)]) (st' := [.int 2, .ref 1021]) (h1 := am_h w g) rfl ?_
            refine am_R.cv (a := 1021) (as' := [.int 2]) (r := []) (v := some (.int 1)) (h1 := am_h (am_pu w 21 (aw_c21 2 ty wr wd wt sn)) g) (pc' := 54) rfl rfl rfl rfl (am_wf 21 (by decide) h21) rfl rfl (aw_k99b (w := w) d h21 2 (by decide)) rfl ?_
            refine am_R.ites 1 (P := 1 = 0) (T := 59) (F := 57) (lv' := [some (.ref 1021), some (.int (Int32.ofNat k)), some (.int v), some (.int 1)]) (st' := []) (h1 := am_h (am_pu w 21 (aw_c21 2 ty wr wd wt sn)) g) rfl (fun c7 => ?_) (fun c7 => ?_)
            · exact absurd c7 (by decide)
            · refine am_R.nxs 1 (pc' := 58) (lv' := [some (.ref 1021), some (.int (Int32.ofNat k)), some (.int v), some (.int 1)]) (st' := [.int 0]) (h1 := am_h (am_pu w 21 (aw_c21 2 ty wr wd wt sn)) g) rfl ?_
              exact am_R.reti rfl rfl rfl
      · exact absurd (by decide) c3
theorem aw_k140c {w : Nat → am_C} {g : am_H} (d : Nat) {ft ty wr wd wt sn : Int32} (h21 : w 21 = aw_c21 ft ty wr wd wt sn) (s v : Int32) (hs : s < 0 ∨ 3 ≤ s) : am_R (d + 1) 140 0 [some (.ref 1021), some (.int s), some (.int v), none] [] (am_h w g) (.inl (some (.int 0))) (am_h (am_pu w 21 (aw_c21 1 ty wr wd wt sn)) g) := by
  refine am_R.ites 2 (P := s < 0) (T := 13) (F := 4) (lv' := [some (.ref 1021), some (.int s), some (.int v), none]) (st' := []) (h1 := am_h w g) rfl (fun c1 => ?_) (fun c1 => ?_)
  · refine am_R.ites 5 (P := ¬ 0 = 0) (T := 24) (F := 20) (lv' := [some (.ref 1021), some (.int s), some (.int v), some (.int 0)]) (st' := [.ref 1021]) (h1 := am_h w g) rfl (fun c2 => ?_) (fun c2 => ?_)
    · exact absurd c2 (by decide)
    · refine am_R.nxs 2 (pc' := 51) (lv' := [some (.ref 1021), some (.int s), some (.int v), some (.int 0)]) (st' := [.int 1, .ref 1021]) (h1 := am_h w g) rfl ?_
      refine am_R.cv (a := 1021) (as' := [.int 1]) (r := []) (v := some (.int 1)) (h1 := am_h (am_pu w 21 (aw_c21 1 ty wr wd wt sn)) g) (pc' := 54) rfl rfl rfl rfl (am_wf 21 (by decide) h21) rfl rfl (aw_k99b (w := w) d h21 1 (by decide)) rfl ?_
      refine am_R.ites 1 (P := 1 = 0) (T := 59) (F := 57) (lv' := [some (.ref 1021), some (.int s), some (.int v), some (.int 0)]) (st' := []) (h1 := am_h (am_pu w 21 (aw_c21 1 ty wr wd wt sn)) g) rfl (fun c3 => ?_) (fun c3 => ?_)
      · exact absurd c3 (by decide)
      · refine am_R.nxs 1 (pc' := 58) (lv' := [some (.ref 1021), some (.int s), some (.int v), some (.int 0)]) (st' := [.int 0]) (h1 := am_h (am_pu w 21 (aw_c21 1 ty wr wd wt sn)) g) rfl ?_
        exact am_R.reti rfl rfl rfl
  · refine am_R.ites 3 (P := 3 ≤ s) (T := 13) (F := 9) (lv' := [some (.ref 1021), some (.int s), some (.int v), none]) (st' := []) (h1 := am_h w g) rfl (fun c4 => ?_) (fun c4 => ?_)
    · refine am_R.ites 5 (P := ¬ 0 = 0) (T := 24) (F := 20) (lv' := [some (.ref 1021), some (.int s), some (.int v), some (.int 0)]) (st' := [.ref 1021]) (h1 := am_h w g) rfl (fun c5 => ?_) (fun c5 => ?_)
      · exact absurd c5 (by decide)
      · refine am_R.nxs 2 (pc' := 51) (lv' := [some (.ref 1021), some (.int s), some (.int v), some (.int 0)]) (st' := [.int 1, .ref 1021]) (h1 := am_h w g) rfl ?_
        refine am_R.cv (a := 1021) (as' := [.int 1]) (r := []) (v := some (.int 1)) (h1 := am_h (am_pu w 21 (aw_c21 1 ty wr wd wt sn)) g) (pc' := 54) rfl rfl rfl rfl (am_wf 21 (by decide) h21) rfl rfl (aw_k99b (w := w) d h21 1 (by decide)) rfl ?_
        refine am_R.ites 1 (P := 1 = 0) (T := 59) (F := 57) (lv' := [some (.ref 1021), some (.int s), some (.int v), some (.int 0)]) (st' := []) (h1 := am_h (am_pu w 21 (aw_c21 1 ty wr wd wt sn)) g) rfl (fun c6 => ?_) (fun c6 => ?_)
        · exact absurd c6 (by decide)
        · refine am_R.nxs 1 (pc' := 58) (lv' := [some (.ref 1021), some (.int s), some (.int v), some (.int 0)]) (st' := [.int 0]) (h1 := am_h (am_pu w 21 (aw_c21 1 ty wr wd wt sn)) g) rfl ?_
          exact am_R.reti rfl rfl rfl
    · exact absurd hs (fun q => q.elim c1 c4)
end
section
/-! The wrappers of the law, out of what the class answers; the cases of the law, out of what both answer. -/
theorem aw_W7a {w : Nat → am_C} {g : am_H} (d : Nat) {tl pl sp : Nat} (h1 : w 1 = aw_c1 tl pl sp) (a0 : Int32) {w1 : Nat → am_C} {g1 : am_H} {v : Int32} {u : Int64} (c : am_R d 8 0 [some (.ref 1001), some (.int a0), none, none, none] [] (am_h w g) (.inl (some (.int v))) (am_h w1 g1)) (e44 : w1 44 = .inr (3, [.long u])) : am_R (d + 1) 7 0 [some (.ref 1001), some (.int a0), some (.ref 1044), none] [] (am_h w g) (.inl (some (.int 0))) (am_h (am_pu w1 44 (.inr (3, [.long (v).toInt64]))) g1) := by
  refine am_R.nxs 4 (pc' := 4) (lv' := [some (.ref 1001), some (.int a0), some (.ref 1044), none]) (st' := [.int a0, .ref 1001, .int 0, .ref 1044]) (h1 := am_h w g) rfl ?_
  refine am_R.cv (a := 1001) (as' := [.int a0]) (r := [.int 0, .ref 1044]) (v := some (.int v)) (h1 := am_h w1 g1) (pc' := 7) rfl rfl rfl rfl (am_wf 1 (by decide) h1) rfl rfl (c) rfl ?_
  refine am_R.nxs 1 (pc' := 8) (lv' := [some (.ref 1001), some (.int a0), some (.ref 1044), none]) (st' := [.long ((v).toInt64), .int 0, .ref 1044]) (h1 := am_h w1 g1) rfl ?_
  refine am_R.stl (v := (v).toInt64) (pc' := 9) rfl (am_wf 44 (by decide) e44) (am_ws (k := 44) (by decide) (by decide)) rfl ?_
  refine am_R.nxs 2 (pc' := 16) (lv' := [some (.ref 1001), some (.int a0), some (.ref 1044), none]) (st' := [.int 0]) (h1 := am_h (am_pu w1 44 (.inr (3, [.long ((v).toInt64)]))) g1) rfl ?_
  exact am_R.reti rfl rfl rfl
theorem aw_W7t8 {w : Nat → am_C} {g : am_H} (d : Nat) {tl pl sp : Nat} (h1 : w 1 = aw_c1 tl pl sp) (a0 : Int32) (c : am_R d 8 0 [some (.ref 1001), some (.int a0), none, none, none] [] (am_h w g) (.inr (1000 + (am_h w g).length)) (am_h w (g ++ [.inl (8, [])]))) : am_R (d + 1) 7 0 [some (.ref 1001), some (.int a0), some (.ref 1044), none] [] (am_h w g) (.inl (some (.int 1))) (am_h w (g ++ [.inl (8, [])])) := by
  refine am_R.nxs 4 (pc' := 4) (lv' := [some (.ref 1001), some (.int a0), some (.ref 1044), none]) (st' := [.int a0, .ref 1001, .int 0, .ref 1044]) (h1 := am_h w g) rfl ?_
  refine am_R.cvc (y := 8) (a := 1001) (as' := [.int a0]) (r := [.int 0, .ref 1044]) (pc' := 12) rfl rfl rfl rfl (am_wf 1 (by decide) h1) rfl rfl (c) (aw_thrown) rfl ?_
  refine am_R.nxs 2 (pc' := 14) (lv' := [some (.ref 1001), some (.int a0), some (.ref 1044), some (.ref (1000 + (am_h w g).length))]) (st' := [.int 1]) (h1 := am_h w (g ++ [.inl (8, [])])) rfl ?_
  exact am_R.reti rfl rfl rfl
theorem aw_W66a {w : Nat → am_C} {g : am_H} (d : Nat) {tl pl sp : Nat} (h1 : w 1 = aw_c1 tl pl sp) (a0 a1 a2 : Int32) {w1 : Nat → am_C} {g1 : am_H} {v : Int32} {u : Int64} (c : am_R d 67 0 [some (.ref 1001), some (.int a0), some (.int a1), some (.int a2)] [] (am_h w g) (.inl (some (.int v))) (am_h w1 g1)) (e44 : w1 44 = .inr (3, [.long u])) : am_R (d + 1) 66 0 [some (.ref 1001), some (.int a0), some (.int a1), some (.int a2), some (.ref 1044), none] [] (am_h w g) (.inl (some (.int 0))) (am_h (am_pu w1 44 (.inr (3, [.long (v).toInt64]))) g1) := by
  refine am_R.nxs 6 (pc' := 7) (lv' := [some (.ref 1001), some (.int a0), some (.int a1), some (.int a2), some (.ref 1044), none]) (st' := [.int a2, .int a1, .int a0, .ref 1001, .int 0, .ref 1044]) (h1 := am_h w g) rfl ?_
  refine am_R.cv (a := 1001) (as' := [.int a0, .int a1, .int a2]) (r := [.int 0, .ref 1044]) (v := some (.int v)) (h1 := am_h w1 g1) (pc' := 10) rfl rfl rfl rfl (am_wf 1 (by decide) h1) rfl rfl (c) rfl ?_
  refine am_R.nxs 1 (pc' := 11) (lv' := [some (.ref 1001), some (.int a0), some (.int a1), some (.int a2), some (.ref 1044), none]) (st' := [.long ((v).toInt64), .int 0, .ref 1044]) (h1 := am_h w1 g1) rfl ?_
  refine am_R.stl (v := (v).toInt64) (pc' := 12) rfl (am_wf 44 (by decide) e44) (am_ws (k := 44) (by decide) (by decide)) rfl ?_
  refine am_R.nxs 2 (pc' := 24) (lv' := [some (.ref 1001), some (.int a0), some (.int a1), some (.int a2), some (.ref 1044), none]) (st' := [.int 0]) (h1 := am_h (am_pu w1 44 (.inr (3, [.long ((v).toInt64)]))) g1) rfl ?_
  exact am_R.reti rfl rfl rfl
theorem aw_W66t8 {w : Nat → am_C} {g : am_H} (d : Nat) {tl pl sp : Nat} (h1 : w 1 = aw_c1 tl pl sp) (a0 a1 a2 : Int32) (c : am_R d 67 0 [some (.ref 1001), some (.int a0), some (.int a1), some (.int a2)] [] (am_h w g) (.inr (1000 + (am_h w g).length)) (am_h w (g ++ [.inl (8, [])]))) : am_R (d + 1) 66 0 [some (.ref 1001), some (.int a0), some (.int a1), some (.int a2), some (.ref 1044), none] [] (am_h w g) (.inl (some (.int 1))) (am_h w (g ++ [.inl (8, [])])) := by
  refine am_R.nxs 6 (pc' := 7) (lv' := [some (.ref 1001), some (.int a0), some (.int a1), some (.int a2), some (.ref 1044), none]) (st' := [.int a2, .int a1, .int a0, .ref 1001, .int 0, .ref 1044]) (h1 := am_h w g) rfl ?_
  refine am_R.cvc (y := 8) (a := 1001) (as' := [.int a0, .int a1, .int a2]) (r := [.int 0, .ref 1044]) (pc' := 15) rfl rfl rfl rfl (am_wf 1 (by decide) h1) rfl rfl (c) (aw_thrown) rfl ?_
  refine am_R.nxs 2 (pc' := 18) (lv' := [some (.ref 1001), some (.int a0), some (.int a1), some (.int a2), some (.ref 1044), some (.ref (1000 + (am_h w g).length))]) (st' := [.int 1]) (h1 := am_h w (g ++ [.inl (8, [])])) rfl ?_
  exact am_R.reti rfl rfl rfl
theorem aw_W66t9 {w : Nat → am_C} {g : am_H} (d : Nat) {tl pl sp : Nat} (h1 : w 1 = aw_c1 tl pl sp) (a0 a1 a2 : Int32) (c : am_R d 67 0 [some (.ref 1001), some (.int a0), some (.int a1), some (.int a2)] [] (am_h w g) (.inr (1000 + (am_h w g).length)) (am_h w (g ++ [.inl (9, [])]))) : am_R (d + 1) 66 0 [some (.ref 1001), some (.int a0), some (.int a1), some (.int a2), some (.ref 1044), none] [] (am_h w g) (.inl (some (.int 2))) (am_h w (g ++ [.inl (9, [])])) := by
  refine am_R.nxs 6 (pc' := 7) (lv' := [some (.ref 1001), some (.int a0), some (.int a1), some (.int a2), some (.ref 1044), none]) (st' := [.int a2, .int a1, .int a0, .ref 1001, .int 0, .ref 1044]) (h1 := am_h w g) rfl ?_
  refine am_R.cvc (y := 9) (a := 1001) (as' := [.int a0, .int a1, .int a2]) (r := [.int 0, .ref 1044]) (pc' := 19) rfl rfl rfl rfl (am_wf 1 (by decide) h1) rfl rfl (c) (aw_thrown) rfl ?_
  refine am_R.nxs 2 (pc' := 22) (lv' := [some (.ref 1001), some (.int a0), some (.int a1), some (.int a2), some (.ref 1044), some (.ref (1000 + (am_h w g).length))]) (st' := [.int 2]) (h1 := am_h w (g ++ [.inl (9, [])])) rfl ?_
  exact am_R.reti rfl rfl rfl
theorem aw_W70a {w : Nat → am_C} {g : am_H} (d : Nat) {tl pl sp : Nat} (h1 : w 1 = aw_c1 tl pl sp) (a0 a1 a2 : Int32) {w1 : Nat → am_C} {g1 : am_H} {v : Int32} {u : Int64} (c : am_R d 71 0 [some (.ref 1001), some (.int a0), some (.int a1), some (.int a2), none, none, none] [] (am_h w g) (.inl (some (.int v))) (am_h w1 g1)) (e44 : w1 44 = .inr (3, [.long u])) : am_R (d + 1) 70 0 [some (.ref 1001), some (.int a0), some (.int a1), some (.int a2), some (.ref 1044), none] [] (am_h w g) (.inl (some (.int 0))) (am_h (am_pu w1 44 (.inr (3, [.long (v).toInt64]))) g1) := by
  refine am_R.nxs 6 (pc' := 7) (lv' := [some (.ref 1001), some (.int a0), some (.int a1), some (.int a2), some (.ref 1044), none]) (st' := [.int a2, .int a1, .int a0, .ref 1001, .int 0, .ref 1044]) (h1 := am_h w g) rfl ?_
  refine am_R.cv (a := 1001) (as' := [.int a0, .int a1, .int a2]) (r := [.int 0, .ref 1044]) (v := some (.int v)) (h1 := am_h w1 g1) (pc' := 10) rfl rfl rfl rfl (am_wf 1 (by decide) h1) rfl rfl (c) rfl ?_
  refine am_R.nxs 1 (pc' := 11) (lv' := [some (.ref 1001), some (.int a0), some (.int a1), some (.int a2), some (.ref 1044), none]) (st' := [.long ((v).toInt64), .int 0, .ref 1044]) (h1 := am_h w1 g1) rfl ?_
  refine am_R.stl (v := (v).toInt64) (pc' := 12) rfl (am_wf 44 (by decide) e44) (am_ws (k := 44) (by decide) (by decide)) rfl ?_
  refine am_R.nxs 2 (pc' := 24) (lv' := [some (.ref 1001), some (.int a0), some (.int a1), some (.int a2), some (.ref 1044), none]) (st' := [.int 0]) (h1 := am_h (am_pu w1 44 (.inr (3, [.long ((v).toInt64)]))) g1) rfl ?_
  exact am_R.reti rfl rfl rfl
theorem aw_W70t8 {w : Nat → am_C} {g : am_H} (d : Nat) {tl pl sp : Nat} (h1 : w 1 = aw_c1 tl pl sp) (a0 a1 a2 : Int32) (c : am_R d 71 0 [some (.ref 1001), some (.int a0), some (.int a1), some (.int a2), none, none, none] [] (am_h w g) (.inr (1000 + (am_h w g).length)) (am_h w (g ++ [.inl (8, [])]))) : am_R (d + 1) 70 0 [some (.ref 1001), some (.int a0), some (.int a1), some (.int a2), some (.ref 1044), none] [] (am_h w g) (.inl (some (.int 1))) (am_h w (g ++ [.inl (8, [])])) := by
  refine am_R.nxs 6 (pc' := 7) (lv' := [some (.ref 1001), some (.int a0), some (.int a1), some (.int a2), some (.ref 1044), none]) (st' := [.int a2, .int a1, .int a0, .ref 1001, .int 0, .ref 1044]) (h1 := am_h w g) rfl ?_
  refine am_R.cvc (y := 8) (a := 1001) (as' := [.int a0, .int a1, .int a2]) (r := [.int 0, .ref 1044]) (pc' := 15) rfl rfl rfl rfl (am_wf 1 (by decide) h1) rfl rfl (c) (aw_thrown) rfl ?_
  refine am_R.nxs 2 (pc' := 18) (lv' := [some (.ref 1001), some (.int a0), some (.int a1), some (.int a2), some (.ref 1044), some (.ref (1000 + (am_h w g).length))]) (st' := [.int 1]) (h1 := am_h w (g ++ [.inl (8, [])])) rfl ?_
  exact am_R.reti rfl rfl rfl
theorem aw_W70t9 {w : Nat → am_C} {g : am_H} (d : Nat) {tl pl sp : Nat} (h1 : w 1 = aw_c1 tl pl sp) (a0 a1 a2 : Int32) (c : am_R d 71 0 [some (.ref 1001), some (.int a0), some (.int a1), some (.int a2), none, none, none] [] (am_h w g) (.inr (1000 + (am_h w g).length)) (am_h w (g ++ [.inl (9, [])]))) : am_R (d + 1) 70 0 [some (.ref 1001), some (.int a0), some (.int a1), some (.int a2), some (.ref 1044), none] [] (am_h w g) (.inl (some (.int 2))) (am_h w (g ++ [.inl (9, [])])) := by
  refine am_R.nxs 6 (pc' := 7) (lv' := [some (.ref 1001), some (.int a0), some (.int a1), some (.int a2), some (.ref 1044), none]) (st' := [.int a2, .int a1, .int a0, .ref 1001, .int 0, .ref 1044]) (h1 := am_h w g) rfl ?_
  refine am_R.cvc (y := 9) (a := 1001) (as' := [.int a0, .int a1, .int a2]) (r := [.int 0, .ref 1044]) (pc' := 19) rfl rfl rfl rfl (am_wf 1 (by decide) h1) rfl rfl (c) (aw_thrown) rfl ?_
  refine am_R.nxs 2 (pc' := 22) (lv' := [some (.ref 1001), some (.int a0), some (.int a1), some (.int a2), some (.ref 1044), some (.ref (1000 + (am_h w g).length))]) (st' := [.int 2]) (h1 := am_h w (g ++ [.inl (9, [])])) rfl ?_
  exact am_R.reti rfl rfl rfl
theorem aw_W72a {w : Nat → am_C} {g : am_H} (d : Nat) {tl pl sp : Nat} (h1 : w 1 = aw_c1 tl pl sp) (a0 a1 : Int32) {w1 : Nat → am_C} {g1 : am_H} {v : Int32} {u : Int64} (c : am_R d 73 0 [some (.ref 1001), some (.int a0), some (.int a1), none, none, none] [] (am_h w g) (.inl (some (.int v))) (am_h w1 g1)) (e44 : w1 44 = .inr (3, [.long u])) : am_R (d + 1) 72 0 [some (.ref 1001), some (.int a0), some (.int a1), some (.ref 1044), none] [] (am_h w g) (.inl (some (.int 0))) (am_h (am_pu w1 44 (.inr (3, [.long (v).toInt64]))) g1) := by
  refine am_R.nxs 5 (pc' := 5) (lv' := [some (.ref 1001), some (.int a0), some (.int a1), some (.ref 1044), none]) (st' := [.int a1, .int a0, .ref 1001, .int 0, .ref 1044]) (h1 := am_h w g) rfl ?_
  refine am_R.cv (a := 1001) (as' := [.int a0, .int a1]) (r := [.int 0, .ref 1044]) (v := some (.int v)) (h1 := am_h w1 g1) (pc' := 8) rfl rfl rfl rfl (am_wf 1 (by decide) h1) rfl rfl (c) rfl ?_
  refine am_R.nxs 1 (pc' := 9) (lv' := [some (.ref 1001), some (.int a0), some (.int a1), some (.ref 1044), none]) (st' := [.long ((v).toInt64), .int 0, .ref 1044]) (h1 := am_h w1 g1) rfl ?_
  refine am_R.stl (v := (v).toInt64) (pc' := 10) rfl (am_wf 44 (by decide) e44) (am_ws (k := 44) (by decide) (by decide)) rfl ?_
  refine am_R.nxs 2 (pc' := 22) (lv' := [some (.ref 1001), some (.int a0), some (.int a1), some (.ref 1044), none]) (st' := [.int 0]) (h1 := am_h (am_pu w1 44 (.inr (3, [.long ((v).toInt64)]))) g1) rfl ?_
  exact am_R.reti rfl rfl rfl
theorem aw_W72t8 {w : Nat → am_C} {g : am_H} (d : Nat) {tl pl sp : Nat} (h1 : w 1 = aw_c1 tl pl sp) (a0 a1 : Int32) (c : am_R d 73 0 [some (.ref 1001), some (.int a0), some (.int a1), none, none, none] [] (am_h w g) (.inr (1000 + (am_h w g).length)) (am_h w (g ++ [.inl (8, [])]))) : am_R (d + 1) 72 0 [some (.ref 1001), some (.int a0), some (.int a1), some (.ref 1044), none] [] (am_h w g) (.inl (some (.int 1))) (am_h w (g ++ [.inl (8, [])])) := by
  refine am_R.nxs 5 (pc' := 5) (lv' := [some (.ref 1001), some (.int a0), some (.int a1), some (.ref 1044), none]) (st' := [.int a1, .int a0, .ref 1001, .int 0, .ref 1044]) (h1 := am_h w g) rfl ?_
  refine am_R.cvc (y := 8) (a := 1001) (as' := [.int a0, .int a1]) (r := [.int 0, .ref 1044]) (pc' := 13) rfl rfl rfl rfl (am_wf 1 (by decide) h1) rfl rfl (c) (aw_thrown) rfl ?_
  refine am_R.nxs 2 (pc' := 16) (lv' := [some (.ref 1001), some (.int a0), some (.int a1), some (.ref 1044), some (.ref (1000 + (am_h w g).length))]) (st' := [.int 1]) (h1 := am_h w (g ++ [.inl (8, [])])) rfl ?_
  exact am_R.reti rfl rfl rfl
theorem aw_W72t9 {w : Nat → am_C} {g : am_H} (d : Nat) {tl pl sp : Nat} (h1 : w 1 = aw_c1 tl pl sp) (a0 a1 : Int32) (c : am_R d 73 0 [some (.ref 1001), some (.int a0), some (.int a1), none, none, none] [] (am_h w g) (.inr (1000 + (am_h w g).length)) (am_h w (g ++ [.inl (9, [])]))) : am_R (d + 1) 72 0 [some (.ref 1001), some (.int a0), some (.int a1), some (.ref 1044), none] [] (am_h w g) (.inl (some (.int 2))) (am_h w (g ++ [.inl (9, [])])) := by
  refine am_R.nxs 5 (pc' := 5) (lv' := [some (.ref 1001), some (.int a0), some (.int a1), some (.ref 1044), none]) (st' := [.int a1, .int a0, .ref 1001, .int 0, .ref 1044]) (h1 := am_h w g) rfl ?_
  refine am_R.cvc (y := 9) (a := 1001) (as' := [.int a0, .int a1]) (r := [.int 0, .ref 1044]) (pc' := 17) rfl rfl rfl rfl (am_wf 1 (by decide) h1) rfl rfl (c) (aw_thrown) rfl ?_
  refine am_R.nxs 2 (pc' := 20) (lv' := [some (.ref 1001), some (.int a0), some (.int a1), some (.ref 1044), some (.ref (1000 + (am_h w g).length))]) (st' := [.int 2]) (h1 := am_h w (g ++ [.inl (9, [])])) rfl ?_
  exact am_R.reti rfl rfl rfl
theorem aw_W74a {w : Nat → am_C} {g : am_H} (d : Nat) {tl pl sp : Nat} (h1 : w 1 = aw_c1 tl pl sp) (a0 a1 : Int32) {w1 : Nat → am_C} {g1 : am_H} {v : Int32} {u : Int64} (c : am_R d 75 0 [some (.ref 1001), some (.int a0), some (.int a1), none, none, none, none] [] (am_h w g) (.inl (some (.int v))) (am_h w1 g1)) (e44 : w1 44 = .inr (3, [.long u])) : am_R (d + 1) 74 0 [some (.ref 1001), some (.int a0), some (.int a1), some (.ref 1044), none] [] (am_h w g) (.inl (some (.int 0))) (am_h (am_pu w1 44 (.inr (3, [.long (v).toInt64]))) g1) := by
  refine am_R.nxs 5 (pc' := 5) (lv' := [some (.ref 1001), some (.int a0), some (.int a1), some (.ref 1044), none]) (st' := [.int a1, .int a0, .ref 1001, .int 0, .ref 1044]) (h1 := am_h w g) rfl ?_
  refine am_R.cv (a := 1001) (as' := [.int a0, .int a1]) (r := [.int 0, .ref 1044]) (v := some (.int v)) (h1 := am_h w1 g1) (pc' := 8) rfl rfl rfl rfl (am_wf 1 (by decide) h1) rfl rfl (c) rfl ?_
  refine am_R.nxs 1 (pc' := 9) (lv' := [some (.ref 1001), some (.int a0), some (.int a1), some (.ref 1044), none]) (st' := [.long ((v).toInt64), .int 0, .ref 1044]) (h1 := am_h w1 g1) rfl ?_
  refine am_R.stl (v := (v).toInt64) (pc' := 10) rfl (am_wf 44 (by decide) e44) (am_ws (k := 44) (by decide) (by decide)) rfl ?_
  refine am_R.nxs 2 (pc' := 22) (lv' := [some (.ref 1001), some (.int a0), some (.int a1), some (.ref 1044), none]) (st' := [.int 0]) (h1 := am_h (am_pu w1 44 (.inr (3, [.long ((v).toInt64)]))) g1) rfl ?_
  exact am_R.reti rfl rfl rfl
theorem aw_W74t8 {w : Nat → am_C} {g : am_H} (d : Nat) {tl pl sp : Nat} (h1 : w 1 = aw_c1 tl pl sp) (a0 a1 : Int32) (c : am_R d 75 0 [some (.ref 1001), some (.int a0), some (.int a1), none, none, none, none] [] (am_h w g) (.inr (1000 + (am_h w g).length)) (am_h w (g ++ [.inl (8, [])]))) : am_R (d + 1) 74 0 [some (.ref 1001), some (.int a0), some (.int a1), some (.ref 1044), none] [] (am_h w g) (.inl (some (.int 1))) (am_h w (g ++ [.inl (8, [])])) := by
  refine am_R.nxs 5 (pc' := 5) (lv' := [some (.ref 1001), some (.int a0), some (.int a1), some (.ref 1044), none]) (st' := [.int a1, .int a0, .ref 1001, .int 0, .ref 1044]) (h1 := am_h w g) rfl ?_
  refine am_R.cvc (y := 8) (a := 1001) (as' := [.int a0, .int a1]) (r := [.int 0, .ref 1044]) (pc' := 13) rfl rfl rfl rfl (am_wf 1 (by decide) h1) rfl rfl (c) (aw_thrown) rfl ?_
  refine am_R.nxs 2 (pc' := 16) (lv' := [some (.ref 1001), some (.int a0), some (.int a1), some (.ref 1044), some (.ref (1000 + (am_h w g).length))]) (st' := [.int 1]) (h1 := am_h w (g ++ [.inl (8, [])])) rfl ?_
  exact am_R.reti rfl rfl rfl
theorem aw_W74t9 {w : Nat → am_C} {g : am_H} (d : Nat) {tl pl sp : Nat} (h1 : w 1 = aw_c1 tl pl sp) (a0 a1 : Int32) (c : am_R d 75 0 [some (.ref 1001), some (.int a0), some (.int a1), none, none, none, none] [] (am_h w g) (.inr (1000 + (am_h w g).length)) (am_h w (g ++ [.inl (9, [])]))) : am_R (d + 1) 74 0 [some (.ref 1001), some (.int a0), some (.int a1), some (.ref 1044), none] [] (am_h w g) (.inl (some (.int 2))) (am_h w (g ++ [.inl (9, [])])) := by
  refine am_R.nxs 5 (pc' := 5) (lv' := [some (.ref 1001), some (.int a0), some (.int a1), some (.ref 1044), none]) (st' := [.int a1, .int a0, .ref 1001, .int 0, .ref 1044]) (h1 := am_h w g) rfl ?_
  refine am_R.cvc (y := 9) (a := 1001) (as' := [.int a0, .int a1]) (r := [.int 0, .ref 1044]) (pc' := 17) rfl rfl rfl rfl (am_wf 1 (by decide) h1) rfl rfl (c) (aw_thrown) rfl ?_
  refine am_R.nxs 2 (pc' := 20) (lv' := [some (.ref 1001), some (.int a0), some (.int a1), some (.ref 1044), some (.ref (1000 + (am_h w g).length))]) (st' := [.int 2]) (h1 := am_h w (g ++ [.inl (9, [])])) rfl ?_
  exact am_R.reti rfl rfl rfl
theorem aw_W76a {w : Nat → am_C} {g : am_H} (d : Nat) {tl pl sp : Nat} (h1 : w 1 = aw_c1 tl pl sp) (a0 : Int32) {w1 : Nat → am_C} {g1 : am_H} {v : Int32} {u : Int64} (c : am_R d 77 0 [some (.ref 1001), some (.int a0)] [] (am_h w g) (.inl (some (.int v))) (am_h w1 g1)) (e44 : w1 44 = .inr (3, [.long u])) : am_R (d + 1) 76 0 [some (.ref 1001), some (.int a0), some (.ref 1044), none] [] (am_h w g) (.inl (some (.int 0))) (am_h (am_pu w1 44 (.inr (3, [.long (v).toInt64]))) g1) := by
  refine am_R.nxs 4 (pc' := 4) (lv' := [some (.ref 1001), some (.int a0), some (.ref 1044), none]) (st' := [.int a0, .ref 1001, .int 0, .ref 1044]) (h1 := am_h w g) rfl ?_
  refine am_R.cv (a := 1001) (as' := [.int a0]) (r := [.int 0, .ref 1044]) (v := some (.int v)) (h1 := am_h w1 g1) (pc' := 7) rfl rfl rfl rfl (am_wf 1 (by decide) h1) rfl rfl (c) rfl ?_
  refine am_R.nxs 1 (pc' := 8) (lv' := [some (.ref 1001), some (.int a0), some (.ref 1044), none]) (st' := [.long ((v).toInt64), .int 0, .ref 1044]) (h1 := am_h w1 g1) rfl ?_
  refine am_R.stl (v := (v).toInt64) (pc' := 9) rfl (am_wf 44 (by decide) e44) (am_ws (k := 44) (by decide) (by decide)) rfl ?_
  refine am_R.nxs 2 (pc' := 19) (lv' := [some (.ref 1001), some (.int a0), some (.ref 1044), none]) (st' := [.int 0]) (h1 := am_h (am_pu w1 44 (.inr (3, [.long ((v).toInt64)]))) g1) rfl ?_
  exact am_R.reti rfl rfl rfl
theorem aw_W76t8 {w : Nat → am_C} {g : am_H} (d : Nat) {tl pl sp : Nat} (h1 : w 1 = aw_c1 tl pl sp) (a0 : Int32) (c : am_R d 77 0 [some (.ref 1001), some (.int a0)] [] (am_h w g) (.inr (1000 + (am_h w g).length)) (am_h w (g ++ [.inl (8, [])]))) : am_R (d + 1) 76 0 [some (.ref 1001), some (.int a0), some (.ref 1044), none] [] (am_h w g) (.inl (some (.int 1))) (am_h w (g ++ [.inl (8, [])])) := by
  refine am_R.nxs 4 (pc' := 4) (lv' := [some (.ref 1001), some (.int a0), some (.ref 1044), none]) (st' := [.int a0, .ref 1001, .int 0, .ref 1044]) (h1 := am_h w g) rfl ?_
  refine am_R.cvc (y := 8) (a := 1001) (as' := [.int a0]) (r := [.int 0, .ref 1044]) (pc' := 12) rfl rfl rfl rfl (am_wf 1 (by decide) h1) rfl rfl (c) (aw_thrown) rfl ?_
  refine am_R.nxs 2 (pc' := 14) (lv' := [some (.ref 1001), some (.int a0), some (.ref 1044), some (.ref (1000 + (am_h w g).length))]) (st' := [.int 1]) (h1 := am_h w (g ++ [.inl (8, [])])) rfl ?_
  exact am_R.reti rfl rfl rfl
theorem aw_W76t9 {w : Nat → am_C} {g : am_H} (d : Nat) {tl pl sp : Nat} (h1 : w 1 = aw_c1 tl pl sp) (a0 : Int32) (c : am_R d 77 0 [some (.ref 1001), some (.int a0)] [] (am_h w g) (.inr (1000 + (am_h w g).length)) (am_h w (g ++ [.inl (9, [])]))) : am_R (d + 1) 76 0 [some (.ref 1001), some (.int a0), some (.ref 1044), none] [] (am_h w g) (.inl (some (.int 2))) (am_h w (g ++ [.inl (9, [])])) := by
  refine am_R.nxs 4 (pc' := 4) (lv' := [some (.ref 1001), some (.int a0), some (.ref 1044), none]) (st' := [.int a0, .ref 1001, .int 0, .ref 1044]) (h1 := am_h w g) rfl ?_
  refine am_R.cvc (y := 9) (a := 1001) (as' := [.int a0]) (r := [.int 0, .ref 1044]) (pc' := 15) rfl rfl rfl rfl (am_wf 1 (by decide) h1) rfl rfl (c) (aw_thrown) rfl ?_
  refine am_R.nxs 2 (pc' := 17) (lv' := [some (.ref 1001), some (.int a0), some (.ref 1044), some (.ref (1000 + (am_h w g).length))]) (st' := [.int 2]) (h1 := am_h w (g ++ [.inl (9, [])])) rfl ?_
  exact am_R.reti rfl rfl rfl
theorem aw_W78a {w : Nat → am_C} {g : am_H} (d : Nat) {tl pl sp : Nat} (h1 : w 1 = aw_c1 tl pl sp) (a0 a1 : Int32) {w1 : Nat → am_C} {g1 : am_H} {v : Int32} {u : Int64} (c : am_R d 79 0 [some (.ref 1001), some (.int a0), some (.int a1), none] [] (am_h w g) (.inl (some (.int v))) (am_h w1 g1)) (e44 : w1 44 = .inr (3, [.long u])) : am_R (d + 1) 78 0 [some (.ref 1001), some (.int a0), some (.int a1), some (.ref 1044), none] [] (am_h w g) (.inl (some (.int 0))) (am_h (am_pu w1 44 (.inr (3, [.long (v).toInt64]))) g1) := by
  refine am_R.nxs 5 (pc' := 5) (lv' := [some (.ref 1001), some (.int a0), some (.int a1), some (.ref 1044), none]) (st' := [.int a1, .int a0, .ref 1001, .int 0, .ref 1044]) (h1 := am_h w g) rfl ?_
  refine am_R.cv (a := 1001) (as' := [.int a0, .int a1]) (r := [.int 0, .ref 1044]) (v := some (.int v)) (h1 := am_h w1 g1) (pc' := 8) rfl rfl rfl rfl (am_wf 1 (by decide) h1) rfl rfl (c) rfl ?_
  refine am_R.nxs 1 (pc' := 9) (lv' := [some (.ref 1001), some (.int a0), some (.int a1), some (.ref 1044), none]) (st' := [.long ((v).toInt64), .int 0, .ref 1044]) (h1 := am_h w1 g1) rfl ?_
  refine am_R.stl (v := (v).toInt64) (pc' := 10) rfl (am_wf 44 (by decide) e44) (am_ws (k := 44) (by decide) (by decide)) rfl ?_
  refine am_R.nxs 2 (pc' := 22) (lv' := [some (.ref 1001), some (.int a0), some (.int a1), some (.ref 1044), none]) (st' := [.int 0]) (h1 := am_h (am_pu w1 44 (.inr (3, [.long ((v).toInt64)]))) g1) rfl ?_
  exact am_R.reti rfl rfl rfl
theorem aw_W78t8 {w : Nat → am_C} {g : am_H} (d : Nat) {tl pl sp : Nat} (h1 : w 1 = aw_c1 tl pl sp) (a0 a1 : Int32) (c : am_R d 79 0 [some (.ref 1001), some (.int a0), some (.int a1), none] [] (am_h w g) (.inr (1000 + (am_h w g).length)) (am_h w (g ++ [.inl (8, [])]))) : am_R (d + 1) 78 0 [some (.ref 1001), some (.int a0), some (.int a1), some (.ref 1044), none] [] (am_h w g) (.inl (some (.int 1))) (am_h w (g ++ [.inl (8, [])])) := by
  refine am_R.nxs 5 (pc' := 5) (lv' := [some (.ref 1001), some (.int a0), some (.int a1), some (.ref 1044), none]) (st' := [.int a1, .int a0, .ref 1001, .int 0, .ref 1044]) (h1 := am_h w g) rfl ?_
  refine am_R.cvc (y := 8) (a := 1001) (as' := [.int a0, .int a1]) (r := [.int 0, .ref 1044]) (pc' := 13) rfl rfl rfl rfl (am_wf 1 (by decide) h1) rfl rfl (c) (aw_thrown) rfl ?_
  refine am_R.nxs 2 (pc' := 16) (lv' := [some (.ref 1001), some (.int a0), some (.int a1), some (.ref 1044), some (.ref (1000 + (am_h w g).length))]) (st' := [.int 1]) (h1 := am_h w (g ++ [.inl (8, [])])) rfl ?_
  exact am_R.reti rfl rfl rfl
theorem aw_W78t9 {w : Nat → am_C} {g : am_H} (d : Nat) {tl pl sp : Nat} (h1 : w 1 = aw_c1 tl pl sp) (a0 a1 : Int32) (c : am_R d 79 0 [some (.ref 1001), some (.int a0), some (.int a1), none] [] (am_h w g) (.inr (1000 + (am_h w g).length)) (am_h w (g ++ [.inl (9, [])]))) : am_R (d + 1) 78 0 [some (.ref 1001), some (.int a0), some (.int a1), some (.ref 1044), none] [] (am_h w g) (.inl (some (.int 2))) (am_h w (g ++ [.inl (9, [])])) := by
  refine am_R.nxs 5 (pc' := 5) (lv' := [some (.ref 1001), some (.int a0), some (.int a1), some (.ref 1044), none]) (st' := [.int a1, .int a0, .ref 1001, .int 0, .ref 1044]) (h1 := am_h w g) rfl ?_
  refine am_R.cvc (y := 9) (a := 1001) (as' := [.int a0, .int a1]) (r := [.int 0, .ref 1044]) (pc' := 17) rfl rfl rfl rfl (am_wf 1 (by decide) h1) rfl rfl (c) (aw_thrown) rfl ?_
  refine am_R.nxs 2 (pc' := 20) (lv' := [some (.ref 1001), some (.int a0), some (.int a1), some (.ref 1044), some (.ref (1000 + (am_h w g).length))]) (st' := [.int 2]) (h1 := am_h w (g ++ [.inl (9, [])])) rfl ?_
  exact am_R.reti rfl rfl rfl
theorem aw_W80a {w : Nat → am_C} {g : am_H} (d : Nat) {tl pl sp : Nat} (h1 : w 1 = aw_c1 tl pl sp) (a0 a1 : Int32) {w1 : Nat → am_C} {g1 : am_H} {v : Int32} {u : Int64} (c : am_R d 81 0 [some (.ref 1001), some (.int a0), some (.int a1), none] [] (am_h w g) (.inl (some (.int v))) (am_h w1 g1)) (e44 : w1 44 = .inr (3, [.long u])) : am_R (d + 1) 80 0 [some (.ref 1001), some (.int a0), some (.int a1), some (.ref 1044), none] [] (am_h w g) (.inl (some (.int 0))) (am_h (am_pu w1 44 (.inr (3, [.long (v).toInt64]))) g1) := by
  refine am_R.nxs 5 (pc' := 5) (lv' := [some (.ref 1001), some (.int a0), some (.int a1), some (.ref 1044), none]) (st' := [.int a1, .int a0, .ref 1001, .int 0, .ref 1044]) (h1 := am_h w g) rfl ?_
  refine am_R.cv (a := 1001) (as' := [.int a0, .int a1]) (r := [.int 0, .ref 1044]) (v := some (.int v)) (h1 := am_h w1 g1) (pc' := 8) rfl rfl rfl rfl (am_wf 1 (by decide) h1) rfl rfl (c) rfl ?_
  refine am_R.nxs 1 (pc' := 9) (lv' := [some (.ref 1001), some (.int a0), some (.int a1), some (.ref 1044), none]) (st' := [.long ((v).toInt64), .int 0, .ref 1044]) (h1 := am_h w1 g1) rfl ?_
  refine am_R.stl (v := (v).toInt64) (pc' := 10) rfl (am_wf 44 (by decide) e44) (am_ws (k := 44) (by decide) (by decide)) rfl ?_
  refine am_R.nxs 2 (pc' := 26) (lv' := [some (.ref 1001), some (.int a0), some (.int a1), some (.ref 1044), none]) (st' := [.int 0]) (h1 := am_h (am_pu w1 44 (.inr (3, [.long ((v).toInt64)]))) g1) rfl ?_
  exact am_R.reti rfl rfl rfl
theorem aw_W80t8 {w : Nat → am_C} {g : am_H} (d : Nat) {tl pl sp : Nat} (h1 : w 1 = aw_c1 tl pl sp) (a0 a1 : Int32) (c : am_R d 81 0 [some (.ref 1001), some (.int a0), some (.int a1), none] [] (am_h w g) (.inr (1000 + (am_h w g).length)) (am_h w (g ++ [.inl (8, [])]))) : am_R (d + 1) 80 0 [some (.ref 1001), some (.int a0), some (.int a1), some (.ref 1044), none] [] (am_h w g) (.inl (some (.int 1))) (am_h w (g ++ [.inl (8, [])])) := by
  refine am_R.nxs 5 (pc' := 5) (lv' := [some (.ref 1001), some (.int a0), some (.int a1), some (.ref 1044), none]) (st' := [.int a1, .int a0, .ref 1001, .int 0, .ref 1044]) (h1 := am_h w g) rfl ?_
  refine am_R.cvc (y := 8) (a := 1001) (as' := [.int a0, .int a1]) (r := [.int 0, .ref 1044]) (pc' := 13) rfl rfl rfl rfl (am_wf 1 (by decide) h1) rfl rfl (c) (aw_thrown) rfl ?_
  refine am_R.nxs 2 (pc' := 16) (lv' := [some (.ref 1001), some (.int a0), some (.int a1), some (.ref 1044), some (.ref (1000 + (am_h w g).length))]) (st' := [.int 1]) (h1 := am_h w (g ++ [.inl (8, [])])) rfl ?_
  exact am_R.reti rfl rfl rfl
theorem aw_W80t10 {w : Nat → am_C} {g : am_H} (d : Nat) {tl pl sp : Nat} (h1 : w 1 = aw_c1 tl pl sp) (a0 a1 : Int32) (c : am_R d 81 0 [some (.ref 1001), some (.int a0), some (.int a1), none] [] (am_h w g) (.inr (1000 + (am_h w g).length)) (am_h w (g ++ [.inl (10, [])]))) : am_R (d + 1) 80 0 [some (.ref 1001), some (.int a0), some (.int a1), some (.ref 1044), none] [] (am_h w g) (.inl (some (.int 2))) (am_h w (g ++ [.inl (10, [])])) := by
  refine am_R.nxs 5 (pc' := 5) (lv' := [some (.ref 1001), some (.int a0), some (.int a1), some (.ref 1044), none]) (st' := [.int a1, .int a0, .ref 1001, .int 0, .ref 1044]) (h1 := am_h w g) rfl ?_
  refine am_R.cvc (y := 10) (a := 1001) (as' := [.int a0, .int a1]) (r := [.int 0, .ref 1044]) (pc' := 17) rfl rfl rfl rfl (am_wf 1 (by decide) h1) rfl rfl (c) (aw_thrown) rfl ?_
  refine am_R.nxs 2 (pc' := 20) (lv' := [some (.ref 1001), some (.int a0), some (.int a1), some (.ref 1044), some (.ref (1000 + (am_h w g).length))]) (st' := [.int 2]) (h1 := am_h w (g ++ [.inl (10, [])])) rfl ?_
  exact am_R.reti rfl rfl rfl
theorem aw_W80t9 {w : Nat → am_C} {g : am_H} (d : Nat) {tl pl sp : Nat} (h1 : w 1 = aw_c1 tl pl sp) (a0 a1 : Int32) (c : am_R d 81 0 [some (.ref 1001), some (.int a0), some (.int a1), none] [] (am_h w g) (.inr (1000 + (am_h w g).length)) (am_h w (g ++ [.inl (9, [])]))) : am_R (d + 1) 80 0 [some (.ref 1001), some (.int a0), some (.int a1), some (.ref 1044), none] [] (am_h w g) (.inl (some (.int 3))) (am_h w (g ++ [.inl (9, [])])) := by
  refine am_R.nxs 5 (pc' := 5) (lv' := [some (.ref 1001), some (.int a0), some (.int a1), some (.ref 1044), none]) (st' := [.int a1, .int a0, .ref 1001, .int 0, .ref 1044]) (h1 := am_h w g) rfl ?_
  refine am_R.cvc (y := 9) (a := 1001) (as' := [.int a0, .int a1]) (r := [.int 0, .ref 1044]) (pc' := 21) rfl rfl rfl rfl (am_wf 1 (by decide) h1) rfl rfl (c) (aw_thrown) rfl ?_
  refine am_R.nxs 2 (pc' := 24) (lv' := [some (.ref 1001), some (.int a0), some (.int a1), some (.ref 1044), some (.ref (1000 + (am_h w g).length))]) (st' := [.int 3]) (h1 := am_h w (g ++ [.inl (9, [])])) rfl ?_
  exact am_R.reti rfl rfl rfl
theorem aw_W85a {w : Nat → am_C} {g : am_H} (d : Nat) {tl pl sp : Nat} (h1 : w 1 = aw_c1 tl pl sp) (a0 : Int32) {w1 : Nat → am_C} {g1 : am_H} {v : Int32} {u : Int64} (c : am_R d 86 0 [some (.ref 1001), some (.int a0)] [] (am_h w g) (.inl (some (.int v))) (am_h w1 g1)) (e44 : w1 44 = .inr (3, [.long u])) : am_R (d + 1) 85 0 [some (.ref 1001), some (.int a0), some (.ref 1044), none] [] (am_h w g) (.inl (some (.int 0))) (am_h (am_pu w1 44 (.inr (3, [.long (v).toInt64]))) g1) := by
  refine am_R.nxs 4 (pc' := 4) (lv' := [some (.ref 1001), some (.int a0), some (.ref 1044), none]) (st' := [.int a0, .ref 1001, .int 0, .ref 1044]) (h1 := am_h w g) rfl ?_
  refine am_R.cv (a := 1001) (as' := [.int a0]) (r := [.int 0, .ref 1044]) (v := some (.int v)) (h1 := am_h w1 g1) (pc' := 7) rfl rfl rfl rfl (am_wf 1 (by decide) h1) rfl rfl (c) rfl ?_
  refine am_R.nxs 1 (pc' := 8) (lv' := [some (.ref 1001), some (.int a0), some (.ref 1044), none]) (st' := [.long ((v).toInt64), .int 0, .ref 1044]) (h1 := am_h w1 g1) rfl ?_
  refine am_R.stl (v := (v).toInt64) (pc' := 9) rfl (am_wf 44 (by decide) e44) (am_ws (k := 44) (by decide) (by decide)) rfl ?_
  refine am_R.nxs 2 (pc' := 19) (lv' := [some (.ref 1001), some (.int a0), some (.ref 1044), none]) (st' := [.int 0]) (h1 := am_h (am_pu w1 44 (.inr (3, [.long ((v).toInt64)]))) g1) rfl ?_
  exact am_R.reti rfl rfl rfl
theorem aw_W85t8 {w : Nat → am_C} {g : am_H} (d : Nat) {tl pl sp : Nat} (h1 : w 1 = aw_c1 tl pl sp) (a0 : Int32) (c : am_R d 86 0 [some (.ref 1001), some (.int a0)] [] (am_h w g) (.inr (1000 + (am_h w g).length)) (am_h w (g ++ [.inl (8, [])]))) : am_R (d + 1) 85 0 [some (.ref 1001), some (.int a0), some (.ref 1044), none] [] (am_h w g) (.inl (some (.int 1))) (am_h w (g ++ [.inl (8, [])])) := by
  refine am_R.nxs 4 (pc' := 4) (lv' := [some (.ref 1001), some (.int a0), some (.ref 1044), none]) (st' := [.int a0, .ref 1001, .int 0, .ref 1044]) (h1 := am_h w g) rfl ?_
  refine am_R.cvc (y := 8) (a := 1001) (as' := [.int a0]) (r := [.int 0, .ref 1044]) (pc' := 12) rfl rfl rfl rfl (am_wf 1 (by decide) h1) rfl rfl (c) (aw_thrown) rfl ?_
  refine am_R.nxs 2 (pc' := 14) (lv' := [some (.ref 1001), some (.int a0), some (.ref 1044), some (.ref (1000 + (am_h w g).length))]) (st' := [.int 1]) (h1 := am_h w (g ++ [.inl (8, [])])) rfl ?_
  exact am_R.reti rfl rfl rfl
theorem aw_W85t9 {w : Nat → am_C} {g : am_H} (d : Nat) {tl pl sp : Nat} (h1 : w 1 = aw_c1 tl pl sp) (a0 : Int32) (c : am_R d 86 0 [some (.ref 1001), some (.int a0)] [] (am_h w g) (.inr (1000 + (am_h w g).length)) (am_h w (g ++ [.inl (9, [])]))) : am_R (d + 1) 85 0 [some (.ref 1001), some (.int a0), some (.ref 1044), none] [] (am_h w g) (.inl (some (.int 2))) (am_h w (g ++ [.inl (9, [])])) := by
  refine am_R.nxs 4 (pc' := 4) (lv' := [some (.ref 1001), some (.int a0), some (.ref 1044), none]) (st' := [.int a0, .ref 1001, .int 0, .ref 1044]) (h1 := am_h w g) rfl ?_
  refine am_R.cvc (y := 9) (a := 1001) (as' := [.int a0]) (r := [.int 0, .ref 1044]) (pc' := 15) rfl rfl rfl rfl (am_wf 1 (by decide) h1) rfl rfl (c) (aw_thrown) rfl ?_
  refine am_R.nxs 2 (pc' := 17) (lv' := [some (.ref 1001), some (.int a0), some (.ref 1044), some (.ref (1000 + (am_h w g).length))]) (st' := [.int 2]) (h1 := am_h w (g ++ [.inl (9, [])])) rfl ?_
  exact am_R.reti rfl rfl rfl
theorem aw_W91a {w : Nat → am_C} {g : am_H} (d : Nat) {tl pl sp : Nat} (h1 : w 1 = aw_c1 tl pl sp) (a0 : Int32) {w1 : Nat → am_C} {g1 : am_H} {v : Int32} {u : Int64} (c : am_R d 92 0 [some (.ref 1001), some (.int a0)] [] (am_h w g) (.inl (some (.int v))) (am_h w1 g1)) (e44 : w1 44 = .inr (3, [.long u])) : am_R (d + 1) 91 0 [some (.ref 1001), some (.int a0), some (.ref 1044), none] [] (am_h w g) (.inl (some (.int 0))) (am_h (am_pu w1 44 (.inr (3, [.long (v).toInt64]))) g1) := by
  refine am_R.nxs 4 (pc' := 4) (lv' := [some (.ref 1001), some (.int a0), some (.ref 1044), none]) (st' := [.int a0, .ref 1001, .int 0, .ref 1044]) (h1 := am_h w g) rfl ?_
  refine am_R.cv (a := 1001) (as' := [.int a0]) (r := [.int 0, .ref 1044]) (v := some (.int v)) (h1 := am_h w1 g1) (pc' := 7) rfl rfl rfl rfl (am_wf 1 (by decide) h1) rfl rfl (c) rfl ?_
  refine am_R.nxs 1 (pc' := 8) (lv' := [some (.ref 1001), some (.int a0), some (.ref 1044), none]) (st' := [.long ((v).toInt64), .int 0, .ref 1044]) (h1 := am_h w1 g1) rfl ?_
  refine am_R.stl (v := (v).toInt64) (pc' := 9) rfl (am_wf 44 (by decide) e44) (am_ws (k := 44) (by decide) (by decide)) rfl ?_
  refine am_R.nxs 2 (pc' := 19) (lv' := [some (.ref 1001), some (.int a0), some (.ref 1044), none]) (st' := [.int 0]) (h1 := am_h (am_pu w1 44 (.inr (3, [.long ((v).toInt64)]))) g1) rfl ?_
  exact am_R.reti rfl rfl rfl
theorem aw_W91t8 {w : Nat → am_C} {g : am_H} (d : Nat) {tl pl sp : Nat} (h1 : w 1 = aw_c1 tl pl sp) (a0 : Int32) (c : am_R d 92 0 [some (.ref 1001), some (.int a0)] [] (am_h w g) (.inr (1000 + (am_h w g).length)) (am_h w (g ++ [.inl (8, [])]))) : am_R (d + 1) 91 0 [some (.ref 1001), some (.int a0), some (.ref 1044), none] [] (am_h w g) (.inl (some (.int 1))) (am_h w (g ++ [.inl (8, [])])) := by
  refine am_R.nxs 4 (pc' := 4) (lv' := [some (.ref 1001), some (.int a0), some (.ref 1044), none]) (st' := [.int a0, .ref 1001, .int 0, .ref 1044]) (h1 := am_h w g) rfl ?_
  refine am_R.cvc (y := 8) (a := 1001) (as' := [.int a0]) (r := [.int 0, .ref 1044]) (pc' := 12) rfl rfl rfl rfl (am_wf 1 (by decide) h1) rfl rfl (c) (aw_thrown) rfl ?_
  refine am_R.nxs 2 (pc' := 14) (lv' := [some (.ref 1001), some (.int a0), some (.ref 1044), some (.ref (1000 + (am_h w g).length))]) (st' := [.int 1]) (h1 := am_h w (g ++ [.inl (8, [])])) rfl ?_
  exact am_R.reti rfl rfl rfl
theorem aw_W91t9 {w : Nat → am_C} {g : am_H} (d : Nat) {tl pl sp : Nat} (h1 : w 1 = aw_c1 tl pl sp) (a0 : Int32) (c : am_R d 92 0 [some (.ref 1001), some (.int a0)] [] (am_h w g) (.inr (1000 + (am_h w g).length)) (am_h w (g ++ [.inl (9, [])]))) : am_R (d + 1) 91 0 [some (.ref 1001), some (.int a0), some (.ref 1044), none] [] (am_h w g) (.inl (some (.int 2))) (am_h w (g ++ [.inl (9, [])])) := by
  refine am_R.nxs 4 (pc' := 4) (lv' := [some (.ref 1001), some (.int a0), some (.ref 1044), none]) (st' := [.int a0, .ref 1001, .int 0, .ref 1044]) (h1 := am_h w g) rfl ?_
  refine am_R.cvc (y := 9) (a := 1001) (as' := [.int a0]) (r := [.int 0, .ref 1044]) (pc' := 15) rfl rfl rfl rfl (am_wf 1 (by decide) h1) rfl rfl (c) (aw_thrown) rfl ?_
  refine am_R.nxs 2 (pc' := 17) (lv' := [some (.ref 1001), some (.int a0), some (.ref 1044), some (.ref (1000 + (am_h w g).length))]) (st' := [.int 2]) (h1 := am_h w (g ++ [.inl (9, [])])) rfl ?_
  exact am_R.reti rfl rfl rfl
set_option maxRecDepth 100000 in
theorem aw_L2 {w w1 w2 : Nat → am_C} {g g1 g2 : am_H} (d i : Nat) (x5 x6 : Option Value) {xs : List Int32} (h0 : w 0 = am_I 0 xs) (hi : i + 4 ≤ xs.length) (hx : xs.length ≤ 2048) {c b : Int32} (hw : am_R (d + 39) 7 0 [some (.ref 1001), some (.int (xs.getD (i + 1) 0)), some (.ref 1044), none] [] (am_h w g) (.inl (some (.int c))) (am_h w1 g1)) (e0 : w1 0 = am_I 0 xs) {f1 f2 f3 f4 f5 f6 : Int32} (e21 : w1 21 = aw_c21 f1 f2 f3 f4 f5 f6) (hm : am_R (d + 39) 98 0 [some (.ref 1021), some (.int (xs.getD (i + 1) 0)), none, none] [] (am_h w1 g1) (.inl (some (.int b))) (am_h w2 g2)) {ty wr wd wt sn : Int32} (h21 : w2 21 = aw_c21 c ty wr wd wt sn) (ho : c = 0 → w2 44 = .inr (3, [.long (b).toInt64])) {o : am_O} {h' : am_H} (K : am_R (d + 40) 0 921 (aw_lv i (some (.int c)) (some (.int b))) [] (am_h w2 g2) o h') : am_R (d + 40) 0 152 (aw_lv i x5 x6) [] (am_h w g) o h' := by
  refine am_R.nxs 5 (pc' := 158) (lv' := [some (.ref 1000), some (.ref 1001), some (.ref 1021), some (.ref 1044), some (.int (Int32.ofNat i)), x5, x6]) (st' := [.int (Int32.ofNat i + 1), .ref 1000, .ref 1001]) (h1 := am_h w g) rfl ?_
  rw [show (Int32.ofNat i + 1 : Int32) = Int32.ofNat (i + 1) from am_add i 1]
  refine am_R.ldi (i := (i + 1)) (xs := xs) (pc' := 159) rfl (am_wf 0 (by decide) h0) (by omega) (by omega) rfl ?_
  refine am_R.nxs 1 (pc' := 160) (lv' := [some (.ref 1000), some (.ref 1001), some (.ref 1021), some (.ref 1044), some (.int (Int32.ofNat i)), x5, x6]) (st' := [.ref 1044, .int (xs.getD (i + 1) 0), .ref 1001]) (h1 := am_h w g) rfl ?_
  refine am_R.cs (mj := 7) (as := [.ref 1001, .int (xs.getD (i + 1) 0), .ref 1044]) (r := []) (v := some (.int c)) (h1 := am_h w1 g1) (pc' := 163) rfl (hw) rfl ?_
  refine am_R.nxs 6 (pc' := 171) (lv' := [some (.ref 1000), some (.ref 1001), some (.ref 1021), some (.ref 1044), some (.int (Int32.ofNat i)), some (.int c), x6]) (st' := [.int (Int32.ofNat i + 1), .ref 1000, .ref 1021]) (h1 := am_h w1 g1) rfl ?_
  rw [show (Int32.ofNat i + 1 : Int32) = Int32.ofNat (i + 1) from am_add i 1]
  refine am_R.ldi (i := (i + 1)) (xs := xs) (pc' := 172) rfl (am_wf 0 (by decide) e0) (by omega) (by omega) rfl ?_
  refine am_R.cv (a := 1021) (as' := [.int (xs.getD (i + 1) 0)]) (r := []) (v := some (.int b)) (h1 := am_h w2 g2) (pc' := 175) rfl rfl rfl rfl (am_wf 21 (by decide) e21) rfl rfl (hm) rfl ?_
  refine am_R.nxs 2 (pc' := 178) (lv' := [some (.ref 1000), some (.ref 1001), some (.ref 1021), some (.ref 1044), some (.int (Int32.ofNat i)), some (.int c), some (.int b)]) (st' := [.ref 1021]) (h1 := am_h w2 g2) rfl ?_
  refine am_R.cv (a := 1021) (as' := []) (r := []) (v := some (.int c)) (h1 := am_h w2 g2) (pc' := 181) rfl rfl rfl rfl (am_wf 21 (by decide) h21) rfl rfl (aw_k95 (w := w2) (d + 39) h21) rfl ?_
  refine am_R.ites 2 (P := c = c) (T := 188) (F := 186) (lv' := [some (.ref 1000), some (.ref 1001), some (.ref 1021), some (.ref 1044), some (.int (Int32.ofNat i)), some (.int c), some (.int b)]) (st' := []) (h1 := am_h w2 g2) rfl (fun c1 => ?_) (fun c1 => ?_)
  · refine am_R.ites 2 (P := ¬ c = 0) (T := 205) (F := 193) (lv' := [some (.ref 1000), some (.ref 1001), some (.ref 1021), some (.ref 1044), some (.int (Int32.ofNat i)), some (.int c), some (.int b)]) (st' := []) (h1 := am_h w2 g2) rfl (fun c2 => ?_) (fun c2 => ?_)
    · refine am_R.nxs 1 (pc' := 921) (lv' := [some (.ref 1000), some (.ref 1001), some (.ref 1021), some (.ref 1044), some (.int (Int32.ofNat i)), some (.int c), some (.int b)]) (st' := []) (h1 := am_h w2 g2) rfl ?_
      exact K
    · refine am_R.nxs 2 (pc' := 195) (lv' := [some (.ref 1000), some (.ref 1001), some (.ref 1021), some (.ref 1044), some (.int (Int32.ofNat i)), some (.int c), some (.int b)]) (st' := [.int 0, .ref 1044]) (h1 := am_h w2 g2) rfl ?_
      refine am_R.ldl (x := (b).toInt64) (pc' := 196) rfl (am_wf 44 (by decide) (ho (Decidable.not_not.mp c2))) rfl ?_
      refine am_R.ites 4 (P := (lg_cmp ((b).toInt64) ((b).toInt64)) = 0) (T := 205) (F := 203) (lv' := [some (.ref 1000), some (.ref 1001), some (.ref 1021), some (.ref 1044), some (.int (Int32.ofNat i)), some (.int c), some (.int b)]) (st' := []) (h1 := am_h w2 g2) rfl (fun c3 => ?_) (fun c3 => ?_)
      · refine am_R.nxs 1 (pc' := 921) (lv' := [some (.ref 1000), some (.ref 1001), some (.ref 1021), some (.ref 1044), some (.int (Int32.ofNat i)), some (.int c), some (.int b)]) (st' := []) (h1 := am_h w2 g2) rfl ?_
        exact K
      · exact absurd (aw_cmp _) c3
  · exact absurd rfl c1
set_option maxRecDepth 100000 in
theorem aw_L3 {w w1 w2 : Nat → am_C} {g g1 g2 : am_H} (d i : Nat) (x5 x6 : Option Value) {xs : List Int32} (h0 : w 0 = am_I 0 xs) (hi : i + 4 ≤ xs.length) (hx : xs.length ≤ 2048) {c b : Int32} (hw : am_R (d + 39) 66 0 [some (.ref 1001), some (.int (xs.getD (i + 1) 0)), some (.int (xs.getD (i + 2) 0)), some (.int (xs.getD (i + 3) 0)), some (.ref 1044), none] [] (am_h w g) (.inl (some (.int c))) (am_h w1 g1)) (e0 : w1 0 = am_I 0 xs) {f1 f2 f3 f4 f5 f6 : Int32} (e21 : w1 21 = aw_c21 f1 f2 f3 f4 f5 f6) (hm : am_R (d + 39) 132 0 [some (.ref 1021), some (.int (xs.getD (i + 1) 0)), some (.int (xs.getD (i + 2) 0)), some (.int (xs.getD (i + 3) 0))] [] (am_h w1 g1) (.inl (some (.int b))) (am_h w2 g2)) {ty wr wd wt sn : Int32} (h21 : w2 21 = aw_c21 c ty wr wd wt sn) (ho : c = 0 → w2 44 = .inr (3, [.long (b).toInt64])) {o : am_O} {h' : am_H} (K : am_R (d + 40) 0 921 (aw_lv i (some (.int c)) (some (.int b))) [] (am_h w2 g2) o h') : am_R (d + 40) 0 208 (aw_lv i x5 x6) [] (am_h w g) o h' := by
  refine am_R.nxs 5 (pc' := 214) (lv' := [some (.ref 1000), some (.ref 1001), some (.ref 1021), some (.ref 1044), some (.int (Int32.ofNat i)), x5, x6]) (st' := [.int (Int32.ofNat i + 1), .ref 1000, .ref 1001]) (h1 := am_h w g) rfl ?_
  rw [show (Int32.ofNat i + 1 : Int32) = Int32.ofNat (i + 1) from am_add i 1]
  refine am_R.ldi (i := (i + 1)) (xs := xs) (pc' := 215) rfl (am_wf 0 (by decide) h0) (by omega) (by omega) rfl ?_
  refine am_R.nxs 4 (pc' := 220) (lv' := [some (.ref 1000), some (.ref 1001), some (.ref 1021), some (.ref 1044), some (.int (Int32.ofNat i)), x5, x6]) (st' := [.int (Int32.ofNat i + 2), .ref 1000, .int (xs.getD (i + 1) 0), .ref 1001]) (h1 := am_h w g) rfl ?_
  rw [show (Int32.ofNat i + 2 : Int32) = Int32.ofNat (i + 2) from am_add i 2]
  refine am_R.ldi (i := (i + 2)) (xs := xs) (pc' := 221) rfl (am_wf 0 (by decide) h0) (by omega) (by omega) rfl ?_
  refine am_R.nxs 4 (pc' := 226) (lv' := [some (.ref 1000), some (.ref 1001), some (.ref 1021), some (.ref 1044), some (.int (Int32.ofNat i)), x5, x6]) (st' := [.int (Int32.ofNat i + 3), .ref 1000, .int (xs.getD (i + 2) 0), .int (xs.getD (i + 1) 0), .ref 1001]) (h1 := am_h w g) rfl ?_
  rw [show (Int32.ofNat i + 3 : Int32) = Int32.ofNat (i + 3) from am_add i 3]
  refine am_R.ldi (i := (i + 3)) (xs := xs) (pc' := 227) rfl (am_wf 0 (by decide) h0) (by omega) (by omega) rfl ?_
  refine am_R.nxs 1 (pc' := 228) (lv' := [some (.ref 1000), some (.ref 1001), some (.ref 1021), some (.ref 1044), some (.int (Int32.ofNat i)), x5, x6]) (st' := [.ref 1044, .int (xs.getD (i + 3) 0), .int (xs.getD (i + 2) 0), .int (xs.getD (i + 1) 0), .ref 1001]) (h1 := am_h w g) rfl ?_
  refine am_R.cs (mj := 66) (as := [.ref 1001, .int (xs.getD (i + 1) 0), .int (xs.getD (i + 2) 0), .int (xs.getD (i + 3) 0), .ref 1044]) (r := []) (v := some (.int c)) (h1 := am_h w1 g1) (pc' := 231) rfl (hw) rfl ?_
  refine am_R.nxs 6 (pc' := 239) (lv' := [some (.ref 1000), some (.ref 1001), some (.ref 1021), some (.ref 1044), some (.int (Int32.ofNat i)), some (.int c), x6]) (st' := [.int (Int32.ofNat i + 1), .ref 1000, .ref 1021]) (h1 := am_h w1 g1) rfl ?_
  rw [show (Int32.ofNat i + 1 : Int32) = Int32.ofNat (i + 1) from am_add i 1]
  refine am_R.ldi (i := (i + 1)) (xs := xs) (pc' := 240) rfl (am_wf 0 (by decide) e0) (by omega) (by omega) rfl ?_
  refine am_R.nxs 4 (pc' := 245) (lv' := [some (.ref 1000), some (.ref 1001), some (.ref 1021), some (.ref 1044), some (.int (Int32.ofNat i)), some (.int c), x6]) (st' := [.int (Int32.ofNat i + 2), .ref 1000, .int (xs.getD (i + 1) 0), .ref 1021]) (h1 := am_h w1 g1) rfl ?_
  rw [show (Int32.ofNat i + 2 : Int32) = Int32.ofNat (i + 2) from am_add i 2]
  refine am_R.ldi (i := (i + 2)) (xs := xs) (pc' := 246) rfl (am_wf 0 (by decide) e0) (by omega) (by omega) rfl ?_
  refine am_R.nxs 4 (pc' := 251) (lv' := [some (.ref 1000), some (.ref 1001), some (.ref 1021), some (.ref 1044), some (.int (Int32.ofNat i)), some (.int c), x6]) (st' := [.int (Int32.ofNat i + 3), .ref 1000, .int (xs.getD (i + 2) 0), .int (xs.getD (i + 1) 0), .ref 1021]) (h1 := am_h w1 g1) rfl ?_
  rw [show (Int32.ofNat i + 3 : Int32) = Int32.ofNat (i + 3) from am_add i 3]
  refine am_R.ldi (i := (i + 3)) (xs := xs) (pc' := 252) rfl (am_wf 0 (by decide) e0) (by omega) (by omega) rfl ?_
  refine am_R.cv (a := 1021) (as' := [.int (xs.getD (i + 1) 0), .int (xs.getD (i + 2) 0), .int (xs.getD (i + 3) 0)]) (r := []) (v := some (.int b)) (h1 := am_h w2 g2) (pc' := 255) rfl rfl rfl rfl (am_wf 21 (by decide) e21) rfl rfl (hm) rfl ?_
  refine am_R.nxs 2 (pc' := 258) (lv' := [some (.ref 1000), some (.ref 1001), some (.ref 1021), some (.ref 1044), some (.int (Int32.ofNat i)), some (.int c), some (.int b)]) (st' := [.ref 1021]) (h1 := am_h w2 g2) rfl ?_
  refine am_R.cv (a := 1021) (as' := []) (r := []) (v := some (.int c)) (h1 := am_h w2 g2) (pc' := 261) rfl rfl rfl rfl (am_wf 21 (by decide) h21) rfl rfl (aw_k95 (w := w2) (d + 39) h21) rfl ?_
  refine am_R.ites 2 (P := c = c) (T := 268) (F := 266) (lv' := [some (.ref 1000), some (.ref 1001), some (.ref 1021), some (.ref 1044), some (.int (Int32.ofNat i)), some (.int c), some (.int b)]) (st' := []) (h1 := am_h w2 g2) rfl (fun c1 => ?_) (fun c1 => ?_)
  · refine am_R.ites 2 (P := ¬ c = 0) (T := 285) (F := 273) (lv' := [some (.ref 1000), some (.ref 1001), some (.ref 1021), some (.ref 1044), some (.int (Int32.ofNat i)), some (.int c), some (.int b)]) (st' := []) (h1 := am_h w2 g2) rfl (fun c2 => ?_) (fun c2 => ?_)
    · refine am_R.nxs 1 (pc' := 921) (lv' := [some (.ref 1000), some (.ref 1001), some (.ref 1021), some (.ref 1044), some (.int (Int32.ofNat i)), some (.int c), some (.int b)]) (st' := []) (h1 := am_h w2 g2) rfl ?_
      exact K
    · refine am_R.nxs 2 (pc' := 275) (lv' := [some (.ref 1000), some (.ref 1001), some (.ref 1021), some (.ref 1044), some (.int (Int32.ofNat i)), some (.int c), some (.int b)]) (st' := [.int 0, .ref 1044]) (h1 := am_h w2 g2) rfl ?_
      refine am_R.ldl (x := (b).toInt64) (pc' := 276) rfl (am_wf 44 (by decide) (ho (Decidable.not_not.mp c2))) rfl ?_
      refine am_R.ites 4 (P := (lg_cmp ((b).toInt64) ((b).toInt64)) = 0) (T := 285) (F := 283) (lv' := [some (.ref 1000), some (.ref 1001), some (.ref 1021), some (.ref 1044), some (.int (Int32.ofNat i)), some (.int c), some (.int b)]) (st' := []) (h1 := am_h w2 g2) rfl (fun c3 => ?_) (fun c3 => ?_)
      · refine am_R.nxs 1 (pc' := 921) (lv' := [some (.ref 1000), some (.ref 1001), some (.ref 1021), some (.ref 1044), some (.int (Int32.ofNat i)), some (.int c), some (.int b)]) (st' := []) (h1 := am_h w2 g2) rfl ?_
        exact K
      · exact absurd (aw_cmp _) c3
  · exact absurd rfl c1
set_option maxRecDepth 100000 in
theorem aw_L4 {w w1 w2 : Nat → am_C} {g g1 g2 : am_H} (d i : Nat) (x5 x6 : Option Value) {xs : List Int32} (h0 : w 0 = am_I 0 xs) (hi : i + 4 ≤ xs.length) (hx : xs.length ≤ 2048) {c b : Int32} (hw : am_R (d + 39) 70 0 [some (.ref 1001), some (.int (xs.getD (i + 1) 0)), some (.int (xs.getD (i + 2) 0)), some (.int (xs.getD (i + 3) 0)), some (.ref 1044), none] [] (am_h w g) (.inl (some (.int c))) (am_h w1 g1)) (e0 : w1 0 = am_I 0 xs) {f1 f2 f3 f4 f5 f6 : Int32} (e21 : w1 21 = aw_c21 f1 f2 f3 f4 f5 f6) (hm : am_R (d + 39) 134 0 [some (.ref 1021), some (.int (xs.getD (i + 1) 0)), some (.int (xs.getD (i + 2) 0)), some (.int (xs.getD (i + 3) 0)), none, none] [] (am_h w1 g1) (.inl (some (.int b))) (am_h w2 g2)) {ty wr wd wt sn : Int32} (h21 : w2 21 = aw_c21 c ty wr wd wt sn) (ho : c = 0 → w2 44 = .inr (3, [.long (b).toInt64])) {o : am_O} {h' : am_H} (K : am_R (d + 40) 0 921 (aw_lv i (some (.int c)) (some (.int b))) [] (am_h w2 g2) o h') : am_R (d + 40) 0 288 (aw_lv i x5 x6) [] (am_h w g) o h' := by
  refine am_R.nxs 5 (pc' := 294) (lv' := [some (.ref 1000), some (.ref 1001), some (.ref 1021), some (.ref 1044), some (.int (Int32.ofNat i)), x5, x6]) (st' := [.int (Int32.ofNat i + 1), .ref 1000, .ref 1001]) (h1 := am_h w g) rfl ?_
  rw [show (Int32.ofNat i + 1 : Int32) = Int32.ofNat (i + 1) from am_add i 1]
  refine am_R.ldi (i := (i + 1)) (xs := xs) (pc' := 295) rfl (am_wf 0 (by decide) h0) (by omega) (by omega) rfl ?_
  refine am_R.nxs 4 (pc' := 300) (lv' := [some (.ref 1000), some (.ref 1001), some (.ref 1021), some (.ref 1044), some (.int (Int32.ofNat i)), x5, x6]) (st' := [.int (Int32.ofNat i + 2), .ref 1000, .int (xs.getD (i + 1) 0), .ref 1001]) (h1 := am_h w g) rfl ?_
  rw [show (Int32.ofNat i + 2 : Int32) = Int32.ofNat (i + 2) from am_add i 2]
  refine am_R.ldi (i := (i + 2)) (xs := xs) (pc' := 301) rfl (am_wf 0 (by decide) h0) (by omega) (by omega) rfl ?_
  refine am_R.nxs 4 (pc' := 306) (lv' := [some (.ref 1000), some (.ref 1001), some (.ref 1021), some (.ref 1044), some (.int (Int32.ofNat i)), x5, x6]) (st' := [.int (Int32.ofNat i + 3), .ref 1000, .int (xs.getD (i + 2) 0), .int (xs.getD (i + 1) 0), .ref 1001]) (h1 := am_h w g) rfl ?_
  rw [show (Int32.ofNat i + 3 : Int32) = Int32.ofNat (i + 3) from am_add i 3]
  refine am_R.ldi (i := (i + 3)) (xs := xs) (pc' := 307) rfl (am_wf 0 (by decide) h0) (by omega) (by omega) rfl ?_
  refine am_R.nxs 1 (pc' := 308) (lv' := [some (.ref 1000), some (.ref 1001), some (.ref 1021), some (.ref 1044), some (.int (Int32.ofNat i)), x5, x6]) (st' := [.ref 1044, .int (xs.getD (i + 3) 0), .int (xs.getD (i + 2) 0), .int (xs.getD (i + 1) 0), .ref 1001]) (h1 := am_h w g) rfl ?_
  refine am_R.cs (mj := 70) (as := [.ref 1001, .int (xs.getD (i + 1) 0), .int (xs.getD (i + 2) 0), .int (xs.getD (i + 3) 0), .ref 1044]) (r := []) (v := some (.int c)) (h1 := am_h w1 g1) (pc' := 311) rfl (hw) rfl ?_
  refine am_R.nxs 6 (pc' := 319) (lv' := [some (.ref 1000), some (.ref 1001), some (.ref 1021), some (.ref 1044), some (.int (Int32.ofNat i)), some (.int c), x6]) (st' := [.int (Int32.ofNat i + 1), .ref 1000, .ref 1021]) (h1 := am_h w1 g1) rfl ?_
  rw [show (Int32.ofNat i + 1 : Int32) = Int32.ofNat (i + 1) from am_add i 1]
  refine am_R.ldi (i := (i + 1)) (xs := xs) (pc' := 320) rfl (am_wf 0 (by decide) e0) (by omega) (by omega) rfl ?_
  refine am_R.nxs 4 (pc' := 325) (lv' := [some (.ref 1000), some (.ref 1001), some (.ref 1021), some (.ref 1044), some (.int (Int32.ofNat i)), some (.int c), x6]) (st' := [.int (Int32.ofNat i + 2), .ref 1000, .int (xs.getD (i + 1) 0), .ref 1021]) (h1 := am_h w1 g1) rfl ?_
  rw [show (Int32.ofNat i + 2 : Int32) = Int32.ofNat (i + 2) from am_add i 2]
  refine am_R.ldi (i := (i + 2)) (xs := xs) (pc' := 326) rfl (am_wf 0 (by decide) e0) (by omega) (by omega) rfl ?_
  refine am_R.nxs 4 (pc' := 331) (lv' := [some (.ref 1000), some (.ref 1001), some (.ref 1021), some (.ref 1044), some (.int (Int32.ofNat i)), some (.int c), x6]) (st' := [.int (Int32.ofNat i + 3), .ref 1000, .int (xs.getD (i + 2) 0), .int (xs.getD (i + 1) 0), .ref 1021]) (h1 := am_h w1 g1) rfl ?_
  rw [show (Int32.ofNat i + 3 : Int32) = Int32.ofNat (i + 3) from am_add i 3]
  refine am_R.ldi (i := (i + 3)) (xs := xs) (pc' := 332) rfl (am_wf 0 (by decide) e0) (by omega) (by omega) rfl ?_
  refine am_R.cv (a := 1021) (as' := [.int (xs.getD (i + 1) 0), .int (xs.getD (i + 2) 0), .int (xs.getD (i + 3) 0)]) (r := []) (v := some (.int b)) (h1 := am_h w2 g2) (pc' := 335) rfl rfl rfl rfl (am_wf 21 (by decide) e21) rfl rfl (hm) rfl ?_
  refine am_R.nxs 2 (pc' := 338) (lv' := [some (.ref 1000), some (.ref 1001), some (.ref 1021), some (.ref 1044), some (.int (Int32.ofNat i)), some (.int c), some (.int b)]) (st' := [.ref 1021]) (h1 := am_h w2 g2) rfl ?_
  refine am_R.cv (a := 1021) (as' := []) (r := []) (v := some (.int c)) (h1 := am_h w2 g2) (pc' := 341) rfl rfl rfl rfl (am_wf 21 (by decide) h21) rfl rfl (aw_k95 (w := w2) (d + 39) h21) rfl ?_
  refine am_R.ites 2 (P := c = c) (T := 348) (F := 346) (lv' := [some (.ref 1000), some (.ref 1001), some (.ref 1021), some (.ref 1044), some (.int (Int32.ofNat i)), some (.int c), some (.int b)]) (st' := []) (h1 := am_h w2 g2) rfl (fun c1 => ?_) (fun c1 => ?_)
  · refine am_R.ites 2 (P := ¬ c = 0) (T := 365) (F := 353) (lv' := [some (.ref 1000), some (.ref 1001), some (.ref 1021), some (.ref 1044), some (.int (Int32.ofNat i)), some (.int c), some (.int b)]) (st' := []) (h1 := am_h w2 g2) rfl (fun c2 => ?_) (fun c2 => ?_)
    · refine am_R.nxs 1 (pc' := 921) (lv' := [some (.ref 1000), some (.ref 1001), some (.ref 1021), some (.ref 1044), some (.int (Int32.ofNat i)), some (.int c), some (.int b)]) (st' := []) (h1 := am_h w2 g2) rfl ?_
      exact K
    · refine am_R.nxs 2 (pc' := 355) (lv' := [some (.ref 1000), some (.ref 1001), some (.ref 1021), some (.ref 1044), some (.int (Int32.ofNat i)), some (.int c), some (.int b)]) (st' := [.int 0, .ref 1044]) (h1 := am_h w2 g2) rfl ?_
      refine am_R.ldl (x := (b).toInt64) (pc' := 356) rfl (am_wf 44 (by decide) (ho (Decidable.not_not.mp c2))) rfl ?_
      refine am_R.ites 4 (P := (lg_cmp ((b).toInt64) ((b).toInt64)) = 0) (T := 365) (F := 363) (lv' := [some (.ref 1000), some (.ref 1001), some (.ref 1021), some (.ref 1044), some (.int (Int32.ofNat i)), some (.int c), some (.int b)]) (st' := []) (h1 := am_h w2 g2) rfl (fun c3 => ?_) (fun c3 => ?_)
      · refine am_R.nxs 1 (pc' := 921) (lv' := [some (.ref 1000), some (.ref 1001), some (.ref 1021), some (.ref 1044), some (.int (Int32.ofNat i)), some (.int c), some (.int b)]) (st' := []) (h1 := am_h w2 g2) rfl ?_
        exact K
      · exact absurd (aw_cmp _) c3
  · exact absurd rfl c1
set_option maxRecDepth 100000 in
theorem aw_L5 {w w1 w2 : Nat → am_C} {g g1 g2 : am_H} (d i : Nat) (x5 x6 : Option Value) {xs : List Int32} (h0 : w 0 = am_I 0 xs) (hi : i + 4 ≤ xs.length) (hx : xs.length ≤ 2048) {c b : Int32} (hw : am_R (d + 39) 72 0 [some (.ref 1001), some (.int (xs.getD (i + 1) 0)), some (.int (xs.getD (i + 2) 0)), some (.ref 1044), none] [] (am_h w g) (.inl (some (.int c))) (am_h w1 g1)) (e0 : w1 0 = am_I 0 xs) {f1 f2 f3 f4 f5 f6 : Int32} (e21 : w1 21 = aw_c21 f1 f2 f3 f4 f5 f6) (hm : am_R (d + 39) 135 0 [some (.ref 1021), some (.int (xs.getD (i + 1) 0)), some (.int (xs.getD (i + 2) 0)), none, none] [] (am_h w1 g1) (.inl (some (.int b))) (am_h w2 g2)) {ty wr wd wt sn : Int32} (h21 : w2 21 = aw_c21 c ty wr wd wt sn) (ho : c = 0 → w2 44 = .inr (3, [.long (b).toInt64])) {o : am_O} {h' : am_H} (K : am_R (d + 40) 0 921 (aw_lv i (some (.int c)) (some (.int b))) [] (am_h w2 g2) o h') : am_R (d + 40) 0 368 (aw_lv i x5 x6) [] (am_h w g) o h' := by
  refine am_R.nxs 5 (pc' := 374) (lv' := [some (.ref 1000), some (.ref 1001), some (.ref 1021), some (.ref 1044), some (.int (Int32.ofNat i)), x5, x6]) (st' := [.int (Int32.ofNat i + 1), .ref 1000, .ref 1001]) (h1 := am_h w g) rfl ?_
  rw [show (Int32.ofNat i + 1 : Int32) = Int32.ofNat (i + 1) from am_add i 1]
  refine am_R.ldi (i := (i + 1)) (xs := xs) (pc' := 375) rfl (am_wf 0 (by decide) h0) (by omega) (by omega) rfl ?_
  refine am_R.nxs 4 (pc' := 380) (lv' := [some (.ref 1000), some (.ref 1001), some (.ref 1021), some (.ref 1044), some (.int (Int32.ofNat i)), x5, x6]) (st' := [.int (Int32.ofNat i + 2), .ref 1000, .int (xs.getD (i + 1) 0), .ref 1001]) (h1 := am_h w g) rfl ?_
  rw [show (Int32.ofNat i + 2 : Int32) = Int32.ofNat (i + 2) from am_add i 2]
  refine am_R.ldi (i := (i + 2)) (xs := xs) (pc' := 381) rfl (am_wf 0 (by decide) h0) (by omega) (by omega) rfl ?_
  refine am_R.nxs 1 (pc' := 382) (lv' := [some (.ref 1000), some (.ref 1001), some (.ref 1021), some (.ref 1044), some (.int (Int32.ofNat i)), x5, x6]) (st' := [.ref 1044, .int (xs.getD (i + 2) 0), .int (xs.getD (i + 1) 0), .ref 1001]) (h1 := am_h w g) rfl ?_
  refine am_R.cs (mj := 72) (as := [.ref 1001, .int (xs.getD (i + 1) 0), .int (xs.getD (i + 2) 0), .ref 1044]) (r := []) (v := some (.int c)) (h1 := am_h w1 g1) (pc' := 385) rfl (hw) rfl ?_
  refine am_R.nxs 6 (pc' := 393) (lv' := [some (.ref 1000), some (.ref 1001), some (.ref 1021), some (.ref 1044), some (.int (Int32.ofNat i)), some (.int c), x6]) (st' := [.int (Int32.ofNat i + 1), .ref 1000, .ref 1021]) (h1 := am_h w1 g1) rfl ?_
  rw [show (Int32.ofNat i + 1 : Int32) = Int32.ofNat (i + 1) from am_add i 1]
  refine am_R.ldi (i := (i + 1)) (xs := xs) (pc' := 394) rfl (am_wf 0 (by decide) e0) (by omega) (by omega) rfl ?_
  refine am_R.nxs 4 (pc' := 399) (lv' := [some (.ref 1000), some (.ref 1001), some (.ref 1021), some (.ref 1044), some (.int (Int32.ofNat i)), some (.int c), x6]) (st' := [.int (Int32.ofNat i + 2), .ref 1000, .int (xs.getD (i + 1) 0), .ref 1021]) (h1 := am_h w1 g1) rfl ?_
  rw [show (Int32.ofNat i + 2 : Int32) = Int32.ofNat (i + 2) from am_add i 2]
  refine am_R.ldi (i := (i + 2)) (xs := xs) (pc' := 400) rfl (am_wf 0 (by decide) e0) (by omega) (by omega) rfl ?_
  refine am_R.cv (a := 1021) (as' := [.int (xs.getD (i + 1) 0), .int (xs.getD (i + 2) 0)]) (r := []) (v := some (.int b)) (h1 := am_h w2 g2) (pc' := 403) rfl rfl rfl rfl (am_wf 21 (by decide) e21) rfl rfl (hm) rfl ?_
  refine am_R.nxs 2 (pc' := 406) (lv' := [some (.ref 1000), some (.ref 1001), some (.ref 1021), some (.ref 1044), some (.int (Int32.ofNat i)), some (.int c), some (.int b)]) (st' := [.ref 1021]) (h1 := am_h w2 g2) rfl ?_
  refine am_R.cv (a := 1021) (as' := []) (r := []) (v := some (.int c)) (h1 := am_h w2 g2) (pc' := 409) rfl rfl rfl rfl (am_wf 21 (by decide) h21) rfl rfl (aw_k95 (w := w2) (d + 39) h21) rfl ?_
  refine am_R.ites 2 (P := c = c) (T := 416) (F := 414) (lv' := [some (.ref 1000), some (.ref 1001), some (.ref 1021), some (.ref 1044), some (.int (Int32.ofNat i)), some (.int c), some (.int b)]) (st' := []) (h1 := am_h w2 g2) rfl (fun c1 => ?_) (fun c1 => ?_)
  · refine am_R.ites 2 (P := ¬ c = 0) (T := 433) (F := 421) (lv' := [some (.ref 1000), some (.ref 1001), some (.ref 1021), some (.ref 1044), some (.int (Int32.ofNat i)), some (.int c), some (.int b)]) (st' := []) (h1 := am_h w2 g2) rfl (fun c2 => ?_) (fun c2 => ?_)
    · refine am_R.nxs 1 (pc' := 921) (lv' := [some (.ref 1000), some (.ref 1001), some (.ref 1021), some (.ref 1044), some (.int (Int32.ofNat i)), some (.int c), some (.int b)]) (st' := []) (h1 := am_h w2 g2) rfl ?_
      exact K
    · refine am_R.nxs 2 (pc' := 423) (lv' := [some (.ref 1000), some (.ref 1001), some (.ref 1021), some (.ref 1044), some (.int (Int32.ofNat i)), some (.int c), some (.int b)]) (st' := [.int 0, .ref 1044]) (h1 := am_h w2 g2) rfl ?_
      refine am_R.ldl (x := (b).toInt64) (pc' := 424) rfl (am_wf 44 (by decide) (ho (Decidable.not_not.mp c2))) rfl ?_
      refine am_R.ites 4 (P := (lg_cmp ((b).toInt64) ((b).toInt64)) = 0) (T := 433) (F := 431) (lv' := [some (.ref 1000), some (.ref 1001), some (.ref 1021), some (.ref 1044), some (.int (Int32.ofNat i)), some (.int c), some (.int b)]) (st' := []) (h1 := am_h w2 g2) rfl (fun c3 => ?_) (fun c3 => ?_)
      · refine am_R.nxs 1 (pc' := 921) (lv' := [some (.ref 1000), some (.ref 1001), some (.ref 1021), some (.ref 1044), some (.int (Int32.ofNat i)), some (.int c), some (.int b)]) (st' := []) (h1 := am_h w2 g2) rfl ?_
        exact K
      · exact absurd (aw_cmp _) c3
  · exact absurd rfl c1
set_option maxRecDepth 100000 in
theorem aw_L6 {w w1 w2 : Nat → am_C} {g g1 g2 : am_H} (d i : Nat) (x5 x6 : Option Value) {xs : List Int32} (h0 : w 0 = am_I 0 xs) (hi : i + 4 ≤ xs.length) (hx : xs.length ≤ 2048) {c b : Int32} (hw : am_R (d + 39) 74 0 [some (.ref 1001), some (.int (xs.getD (i + 1) 0)), some (.int (xs.getD (i + 2) 0)), some (.ref 1044), none] [] (am_h w g) (.inl (some (.int c))) (am_h w1 g1)) (e0 : w1 0 = am_I 0 xs) {f1 f2 f3 f4 f5 f6 : Int32} (e21 : w1 21 = aw_c21 f1 f2 f3 f4 f5 f6) (hm : am_R (d + 39) 136 0 [some (.ref 1021), some (.int (xs.getD (i + 1) 0)), some (.int (xs.getD (i + 2) 0)), none, none] [] (am_h w1 g1) (.inl (some (.int b))) (am_h w2 g2)) {ty wr wd wt sn : Int32} (h21 : w2 21 = aw_c21 c ty wr wd wt sn) (ho : c = 0 → w2 44 = .inr (3, [.long (b).toInt64])) {o : am_O} {h' : am_H} (K : am_R (d + 40) 0 921 (aw_lv i (some (.int c)) (some (.int b))) [] (am_h w2 g2) o h') : am_R (d + 40) 0 436 (aw_lv i x5 x6) [] (am_h w g) o h' := by
  refine am_R.nxs 5 (pc' := 442) (lv' := [some (.ref 1000), some (.ref 1001), some (.ref 1021), some (.ref 1044), some (.int (Int32.ofNat i)), x5, x6]) (st' := [.int (Int32.ofNat i + 1), .ref 1000, .ref 1001]) (h1 := am_h w g) rfl ?_
  rw [show (Int32.ofNat i + 1 : Int32) = Int32.ofNat (i + 1) from am_add i 1]
  refine am_R.ldi (i := (i + 1)) (xs := xs) (pc' := 443) rfl (am_wf 0 (by decide) h0) (by omega) (by omega) rfl ?_
  refine am_R.nxs 4 (pc' := 448) (lv' := [some (.ref 1000), some (.ref 1001), some (.ref 1021), some (.ref 1044), some (.int (Int32.ofNat i)), x5, x6]) (st' := [.int (Int32.ofNat i + 2), .ref 1000, .int (xs.getD (i + 1) 0), .ref 1001]) (h1 := am_h w g) rfl ?_
  rw [show (Int32.ofNat i + 2 : Int32) = Int32.ofNat (i + 2) from am_add i 2]
  refine am_R.ldi (i := (i + 2)) (xs := xs) (pc' := 449) rfl (am_wf 0 (by decide) h0) (by omega) (by omega) rfl ?_
  refine am_R.nxs 1 (pc' := 450) (lv' := [some (.ref 1000), some (.ref 1001), some (.ref 1021), some (.ref 1044), some (.int (Int32.ofNat i)), x5, x6]) (st' := [.ref 1044, .int (xs.getD (i + 2) 0), .int (xs.getD (i + 1) 0), .ref 1001]) (h1 := am_h w g) rfl ?_
  refine am_R.cs (mj := 74) (as := [.ref 1001, .int (xs.getD (i + 1) 0), .int (xs.getD (i + 2) 0), .ref 1044]) (r := []) (v := some (.int c)) (h1 := am_h w1 g1) (pc' := 453) rfl (hw) rfl ?_
  refine am_R.nxs 6 (pc' := 461) (lv' := [some (.ref 1000), some (.ref 1001), some (.ref 1021), some (.ref 1044), some (.int (Int32.ofNat i)), some (.int c), x6]) (st' := [.int (Int32.ofNat i + 1), .ref 1000, .ref 1021]) (h1 := am_h w1 g1) rfl ?_
  rw [show (Int32.ofNat i + 1 : Int32) = Int32.ofNat (i + 1) from am_add i 1]
  refine am_R.ldi (i := (i + 1)) (xs := xs) (pc' := 462) rfl (am_wf 0 (by decide) e0) (by omega) (by omega) rfl ?_
  refine am_R.nxs 4 (pc' := 467) (lv' := [some (.ref 1000), some (.ref 1001), some (.ref 1021), some (.ref 1044), some (.int (Int32.ofNat i)), some (.int c), x6]) (st' := [.int (Int32.ofNat i + 2), .ref 1000, .int (xs.getD (i + 1) 0), .ref 1021]) (h1 := am_h w1 g1) rfl ?_
  rw [show (Int32.ofNat i + 2 : Int32) = Int32.ofNat (i + 2) from am_add i 2]
  refine am_R.ldi (i := (i + 2)) (xs := xs) (pc' := 468) rfl (am_wf 0 (by decide) e0) (by omega) (by omega) rfl ?_
  refine am_R.cv (a := 1021) (as' := [.int (xs.getD (i + 1) 0), .int (xs.getD (i + 2) 0)]) (r := []) (v := some (.int b)) (h1 := am_h w2 g2) (pc' := 471) rfl rfl rfl rfl (am_wf 21 (by decide) e21) rfl rfl (hm) rfl ?_
  refine am_R.nxs 2 (pc' := 474) (lv' := [some (.ref 1000), some (.ref 1001), some (.ref 1021), some (.ref 1044), some (.int (Int32.ofNat i)), some (.int c), some (.int b)]) (st' := [.ref 1021]) (h1 := am_h w2 g2) rfl ?_
  refine am_R.cv (a := 1021) (as' := []) (r := []) (v := some (.int c)) (h1 := am_h w2 g2) (pc' := 477) rfl rfl rfl rfl (am_wf 21 (by decide) h21) rfl rfl (aw_k95 (w := w2) (d + 39) h21) rfl ?_
  refine am_R.ites 2 (P := c = c) (T := 484) (F := 482) (lv' := [some (.ref 1000), some (.ref 1001), some (.ref 1021), some (.ref 1044), some (.int (Int32.ofNat i)), some (.int c), some (.int b)]) (st' := []) (h1 := am_h w2 g2) rfl (fun c1 => ?_) (fun c1 => ?_)
  · refine am_R.ites 2 (P := ¬ c = 0) (T := 501) (F := 489) (lv' := [some (.ref 1000), some (.ref 1001), some (.ref 1021), some (.ref 1044), some (.int (Int32.ofNat i)), some (.int c), some (.int b)]) (st' := []) (h1 := am_h w2 g2) rfl (fun c2 => ?_) (fun c2 => ?_)
    · refine am_R.nxs 1 (pc' := 921) (lv' := [some (.ref 1000), some (.ref 1001), some (.ref 1021), some (.ref 1044), some (.int (Int32.ofNat i)), some (.int c), some (.int b)]) (st' := []) (h1 := am_h w2 g2) rfl ?_
      exact K
    · refine am_R.nxs 2 (pc' := 491) (lv' := [some (.ref 1000), some (.ref 1001), some (.ref 1021), some (.ref 1044), some (.int (Int32.ofNat i)), some (.int c), some (.int b)]) (st' := [.int 0, .ref 1044]) (h1 := am_h w2 g2) rfl ?_
      refine am_R.ldl (x := (b).toInt64) (pc' := 492) rfl (am_wf 44 (by decide) (ho (Decidable.not_not.mp c2))) rfl ?_
      refine am_R.ites 4 (P := (lg_cmp ((b).toInt64) ((b).toInt64)) = 0) (T := 501) (F := 499) (lv' := [some (.ref 1000), some (.ref 1001), some (.ref 1021), some (.ref 1044), some (.int (Int32.ofNat i)), some (.int c), some (.int b)]) (st' := []) (h1 := am_h w2 g2) rfl (fun c3 => ?_) (fun c3 => ?_)
      · refine am_R.nxs 1 (pc' := 921) (lv' := [some (.ref 1000), some (.ref 1001), some (.ref 1021), some (.ref 1044), some (.int (Int32.ofNat i)), some (.int c), some (.int b)]) (st' := []) (h1 := am_h w2 g2) rfl ?_
        exact K
      · exact absurd (aw_cmp _) c3
  · exact absurd rfl c1
set_option maxRecDepth 100000 in
theorem aw_L7 {w w1 w2 : Nat → am_C} {g g1 g2 : am_H} (d i : Nat) (x5 x6 : Option Value) {xs : List Int32} (h0 : w 0 = am_I 0 xs) (hi : i + 4 ≤ xs.length) (hx : xs.length ≤ 2048) {c b : Int32} (hw : am_R (d + 39) 76 0 [some (.ref 1001), some (.int (xs.getD (i + 1) 0)), some (.ref 1044), none] [] (am_h w g) (.inl (some (.int c))) (am_h w1 g1)) (e0 : w1 0 = am_I 0 xs) {f1 f2 f3 f4 f5 f6 : Int32} (e21 : w1 21 = aw_c21 f1 f2 f3 f4 f5 f6) (hm : am_R (d + 39) 138 0 [some (.ref 1021), some (.int (xs.getD (i + 1) 0))] [] (am_h w1 g1) (.inl (some (.int b))) (am_h w2 g2)) {ty wr wd wt sn : Int32} (h21 : w2 21 = aw_c21 c ty wr wd wt sn) (ho : c = 0 → w2 44 = .inr (3, [.long (b).toInt64])) {o : am_O} {h' : am_H} (K : am_R (d + 40) 0 921 (aw_lv i (some (.int c)) (some (.int b))) [] (am_h w2 g2) o h') : am_R (d + 40) 0 504 (aw_lv i x5 x6) [] (am_h w g) o h' := by
  refine am_R.nxs 5 (pc' := 510) (lv' := [some (.ref 1000), some (.ref 1001), some (.ref 1021), some (.ref 1044), some (.int (Int32.ofNat i)), x5, x6]) (st' := [.int (Int32.ofNat i + 1), .ref 1000, .ref 1001]) (h1 := am_h w g) rfl ?_
  rw [show (Int32.ofNat i + 1 : Int32) = Int32.ofNat (i + 1) from am_add i 1]
  refine am_R.ldi (i := (i + 1)) (xs := xs) (pc' := 511) rfl (am_wf 0 (by decide) h0) (by omega) (by omega) rfl ?_
  refine am_R.nxs 1 (pc' := 512) (lv' := [some (.ref 1000), some (.ref 1001), some (.ref 1021), some (.ref 1044), some (.int (Int32.ofNat i)), x5, x6]) (st' := [.ref 1044, .int (xs.getD (i + 1) 0), .ref 1001]) (h1 := am_h w g) rfl ?_
  refine am_R.cs (mj := 76) (as := [.ref 1001, .int (xs.getD (i + 1) 0), .ref 1044]) (r := []) (v := some (.int c)) (h1 := am_h w1 g1) (pc' := 515) rfl (hw) rfl ?_
  refine am_R.nxs 6 (pc' := 523) (lv' := [some (.ref 1000), some (.ref 1001), some (.ref 1021), some (.ref 1044), some (.int (Int32.ofNat i)), some (.int c), x6]) (st' := [.int (Int32.ofNat i + 1), .ref 1000, .ref 1021]) (h1 := am_h w1 g1) rfl ?_
  rw [show (Int32.ofNat i + 1 : Int32) = Int32.ofNat (i + 1) from am_add i 1]
  refine am_R.ldi (i := (i + 1)) (xs := xs) (pc' := 524) rfl (am_wf 0 (by decide) e0) (by omega) (by omega) rfl ?_
  refine am_R.cv (a := 1021) (as' := [.int (xs.getD (i + 1) 0)]) (r := []) (v := some (.int b)) (h1 := am_h w2 g2) (pc' := 527) rfl rfl rfl rfl (am_wf 21 (by decide) e21) rfl rfl (hm) rfl ?_
  refine am_R.nxs 2 (pc' := 530) (lv' := [some (.ref 1000), some (.ref 1001), some (.ref 1021), some (.ref 1044), some (.int (Int32.ofNat i)), some (.int c), some (.int b)]) (st' := [.ref 1021]) (h1 := am_h w2 g2) rfl ?_
  refine am_R.cv (a := 1021) (as' := []) (r := []) (v := some (.int c)) (h1 := am_h w2 g2) (pc' := 533) rfl rfl rfl rfl (am_wf 21 (by decide) h21) rfl rfl (aw_k95 (w := w2) (d + 39) h21) rfl ?_
  refine am_R.ites 2 (P := c = c) (T := 540) (F := 538) (lv' := [some (.ref 1000), some (.ref 1001), some (.ref 1021), some (.ref 1044), some (.int (Int32.ofNat i)), some (.int c), some (.int b)]) (st' := []) (h1 := am_h w2 g2) rfl (fun c1 => ?_) (fun c1 => ?_)
  · refine am_R.ites 2 (P := ¬ c = 0) (T := 557) (F := 545) (lv' := [some (.ref 1000), some (.ref 1001), some (.ref 1021), some (.ref 1044), some (.int (Int32.ofNat i)), some (.int c), some (.int b)]) (st' := []) (h1 := am_h w2 g2) rfl (fun c2 => ?_) (fun c2 => ?_)
    · refine am_R.nxs 1 (pc' := 921) (lv' := [some (.ref 1000), some (.ref 1001), some (.ref 1021), some (.ref 1044), some (.int (Int32.ofNat i)), some (.int c), some (.int b)]) (st' := []) (h1 := am_h w2 g2) rfl ?_
      exact K
    · refine am_R.nxs 2 (pc' := 547) (lv' := [some (.ref 1000), some (.ref 1001), some (.ref 1021), some (.ref 1044), some (.int (Int32.ofNat i)), some (.int c), some (.int b)]) (st' := [.int 0, .ref 1044]) (h1 := am_h w2 g2) rfl ?_
      refine am_R.ldl (x := (b).toInt64) (pc' := 548) rfl (am_wf 44 (by decide) (ho (Decidable.not_not.mp c2))) rfl ?_
      refine am_R.ites 4 (P := (lg_cmp ((b).toInt64) ((b).toInt64)) = 0) (T := 557) (F := 555) (lv' := [some (.ref 1000), some (.ref 1001), some (.ref 1021), some (.ref 1044), some (.int (Int32.ofNat i)), some (.int c), some (.int b)]) (st' := []) (h1 := am_h w2 g2) rfl (fun c3 => ?_) (fun c3 => ?_)
      · refine am_R.nxs 1 (pc' := 921) (lv' := [some (.ref 1000), some (.ref 1001), some (.ref 1021), some (.ref 1044), some (.int (Int32.ofNat i)), some (.int c), some (.int b)]) (st' := []) (h1 := am_h w2 g2) rfl ?_
        exact K
      · exact absurd (aw_cmp _) c3
  · exact absurd rfl c1
set_option maxRecDepth 100000 in
theorem aw_L8 {w w1 w2 : Nat → am_C} {g g1 g2 : am_H} (d i : Nat) (x5 x6 : Option Value) {xs : List Int32} (h0 : w 0 = am_I 0 xs) (hi : i + 4 ≤ xs.length) (hx : xs.length ≤ 2048) {c b : Int32} (hw : am_R (d + 39) 78 0 [some (.ref 1001), some (.int (xs.getD (i + 1) 0)), some (.int (xs.getD (i + 2) 0)), some (.ref 1044), none] [] (am_h w g) (.inl (some (.int c))) (am_h w1 g1)) (e0 : w1 0 = am_I 0 xs) {f1 f2 f3 f4 f5 f6 : Int32} (e21 : w1 21 = aw_c21 f1 f2 f3 f4 f5 f6) (hm : am_R (d + 39) 139 0 [some (.ref 1021), some (.int (xs.getD (i + 1) 0)), some (.int (xs.getD (i + 2) 0))] [] (am_h w1 g1) (.inl (some (.int b))) (am_h w2 g2)) {ty wr wd wt sn : Int32} (h21 : w2 21 = aw_c21 c ty wr wd wt sn) (ho : c = 0 → w2 44 = .inr (3, [.long (b).toInt64])) {o : am_O} {h' : am_H} (K : am_R (d + 40) 0 921 (aw_lv i (some (.int c)) (some (.int b))) [] (am_h w2 g2) o h') : am_R (d + 40) 0 560 (aw_lv i x5 x6) [] (am_h w g) o h' := by
  refine am_R.nxs 5 (pc' := 566) (lv' := [some (.ref 1000), some (.ref 1001), some (.ref 1021), some (.ref 1044), some (.int (Int32.ofNat i)), x5, x6]) (st' := [.int (Int32.ofNat i + 1), .ref 1000, .ref 1001]) (h1 := am_h w g) rfl ?_
  rw [show (Int32.ofNat i + 1 : Int32) = Int32.ofNat (i + 1) from am_add i 1]
  refine am_R.ldi (i := (i + 1)) (xs := xs) (pc' := 567) rfl (am_wf 0 (by decide) h0) (by omega) (by omega) rfl ?_
  refine am_R.nxs 4 (pc' := 572) (lv' := [some (.ref 1000), some (.ref 1001), some (.ref 1021), some (.ref 1044), some (.int (Int32.ofNat i)), x5, x6]) (st' := [.int (Int32.ofNat i + 2), .ref 1000, .int (xs.getD (i + 1) 0), .ref 1001]) (h1 := am_h w g) rfl ?_
  rw [show (Int32.ofNat i + 2 : Int32) = Int32.ofNat (i + 2) from am_add i 2]
  refine am_R.ldi (i := (i + 2)) (xs := xs) (pc' := 573) rfl (am_wf 0 (by decide) h0) (by omega) (by omega) rfl ?_
  refine am_R.nxs 1 (pc' := 574) (lv' := [some (.ref 1000), some (.ref 1001), some (.ref 1021), some (.ref 1044), some (.int (Int32.ofNat i)), x5, x6]) (st' := [.ref 1044, .int (xs.getD (i + 2) 0), .int (xs.getD (i + 1) 0), .ref 1001]) (h1 := am_h w g) rfl ?_
  refine am_R.cs (mj := 78) (as := [.ref 1001, .int (xs.getD (i + 1) 0), .int (xs.getD (i + 2) 0), .ref 1044]) (r := []) (v := some (.int c)) (h1 := am_h w1 g1) (pc' := 577) rfl (hw) rfl ?_
  refine am_R.nxs 6 (pc' := 585) (lv' := [some (.ref 1000), some (.ref 1001), some (.ref 1021), some (.ref 1044), some (.int (Int32.ofNat i)), some (.int c), x6]) (st' := [.int (Int32.ofNat i + 1), .ref 1000, .ref 1021]) (h1 := am_h w1 g1) rfl ?_
  rw [show (Int32.ofNat i + 1 : Int32) = Int32.ofNat (i + 1) from am_add i 1]
  refine am_R.ldi (i := (i + 1)) (xs := xs) (pc' := 586) rfl (am_wf 0 (by decide) e0) (by omega) (by omega) rfl ?_
  refine am_R.nxs 4 (pc' := 591) (lv' := [some (.ref 1000), some (.ref 1001), some (.ref 1021), some (.ref 1044), some (.int (Int32.ofNat i)), some (.int c), x6]) (st' := [.int (Int32.ofNat i + 2), .ref 1000, .int (xs.getD (i + 1) 0), .ref 1021]) (h1 := am_h w1 g1) rfl ?_
  rw [show (Int32.ofNat i + 2 : Int32) = Int32.ofNat (i + 2) from am_add i 2]
  refine am_R.ldi (i := (i + 2)) (xs := xs) (pc' := 592) rfl (am_wf 0 (by decide) e0) (by omega) (by omega) rfl ?_
  refine am_R.cv (a := 1021) (as' := [.int (xs.getD (i + 1) 0), .int (xs.getD (i + 2) 0)]) (r := []) (v := some (.int b)) (h1 := am_h w2 g2) (pc' := 595) rfl rfl rfl rfl (am_wf 21 (by decide) e21) rfl rfl (hm) rfl ?_
  refine am_R.nxs 2 (pc' := 598) (lv' := [some (.ref 1000), some (.ref 1001), some (.ref 1021), some (.ref 1044), some (.int (Int32.ofNat i)), some (.int c), some (.int b)]) (st' := [.ref 1021]) (h1 := am_h w2 g2) rfl ?_
  refine am_R.cv (a := 1021) (as' := []) (r := []) (v := some (.int c)) (h1 := am_h w2 g2) (pc' := 601) rfl rfl rfl rfl (am_wf 21 (by decide) h21) rfl rfl (aw_k95 (w := w2) (d + 39) h21) rfl ?_
  refine am_R.ites 2 (P := c = c) (T := 608) (F := 606) (lv' := [some (.ref 1000), some (.ref 1001), some (.ref 1021), some (.ref 1044), some (.int (Int32.ofNat i)), some (.int c), some (.int b)]) (st' := []) (h1 := am_h w2 g2) rfl (fun c1 => ?_) (fun c1 => ?_)
  · refine am_R.ites 2 (P := ¬ c = 0) (T := 625) (F := 613) (lv' := [some (.ref 1000), some (.ref 1001), some (.ref 1021), some (.ref 1044), some (.int (Int32.ofNat i)), some (.int c), some (.int b)]) (st' := []) (h1 := am_h w2 g2) rfl (fun c2 => ?_) (fun c2 => ?_)
    · refine am_R.nxs 1 (pc' := 921) (lv' := [some (.ref 1000), some (.ref 1001), some (.ref 1021), some (.ref 1044), some (.int (Int32.ofNat i)), some (.int c), some (.int b)]) (st' := []) (h1 := am_h w2 g2) rfl ?_
      exact K
    · refine am_R.nxs 2 (pc' := 615) (lv' := [some (.ref 1000), some (.ref 1001), some (.ref 1021), some (.ref 1044), some (.int (Int32.ofNat i)), some (.int c), some (.int b)]) (st' := [.int 0, .ref 1044]) (h1 := am_h w2 g2) rfl ?_
      refine am_R.ldl (x := (b).toInt64) (pc' := 616) rfl (am_wf 44 (by decide) (ho (Decidable.not_not.mp c2))) rfl ?_
      refine am_R.ites 4 (P := (lg_cmp ((b).toInt64) ((b).toInt64)) = 0) (T := 625) (F := 623) (lv' := [some (.ref 1000), some (.ref 1001), some (.ref 1021), some (.ref 1044), some (.int (Int32.ofNat i)), some (.int c), some (.int b)]) (st' := []) (h1 := am_h w2 g2) rfl (fun c3 => ?_) (fun c3 => ?_)
      · refine am_R.nxs 1 (pc' := 921) (lv' := [some (.ref 1000), some (.ref 1001), some (.ref 1021), some (.ref 1044), some (.int (Int32.ofNat i)), some (.int c), some (.int b)]) (st' := []) (h1 := am_h w2 g2) rfl ?_
        exact K
      · exact absurd (aw_cmp _) c3
  · exact absurd rfl c1
set_option maxRecDepth 100000 in
theorem aw_L9 {w w1 w2 : Nat → am_C} {g g1 g2 : am_H} (d i : Nat) (x5 x6 : Option Value) {xs : List Int32} (h0 : w 0 = am_I 0 xs) (hi : i + 4 ≤ xs.length) (hx : xs.length ≤ 2048) {c b : Int32} (hw : am_R (d + 39) 80 0 [some (.ref 1001), some (.int (xs.getD (i + 1) 0)), some (.int (xs.getD (i + 2) 0)), some (.ref 1044), none] [] (am_h w g) (.inl (some (.int c))) (am_h w1 g1)) (e0 : w1 0 = am_I 0 xs) {f1 f2 f3 f4 f5 f6 : Int32} (e21 : w1 21 = aw_c21 f1 f2 f3 f4 f5 f6) (hm : am_R (d + 39) 140 0 [some (.ref 1021), some (.int (xs.getD (i + 1) 0)), some (.int (xs.getD (i + 2) 0)), none] [] (am_h w1 g1) (.inl (some (.int b))) (am_h w2 g2)) {ty wr wd wt sn : Int32} (h21 : w2 21 = aw_c21 c ty wr wd wt sn) (ho : c = 0 → w2 44 = .inr (3, [.long (b).toInt64])) {o : am_O} {h' : am_H} (K : am_R (d + 40) 0 921 (aw_lv i (some (.int c)) (some (.int b))) [] (am_h w2 g2) o h') : am_R (d + 40) 0 628 (aw_lv i x5 x6) [] (am_h w g) o h' := by
  refine am_R.nxs 5 (pc' := 634) (lv' := [some (.ref 1000), some (.ref 1001), some (.ref 1021), some (.ref 1044), some (.int (Int32.ofNat i)), x5, x6]) (st' := [.int (Int32.ofNat i + 1), .ref 1000, .ref 1001]) (h1 := am_h w g) rfl ?_
  rw [show (Int32.ofNat i + 1 : Int32) = Int32.ofNat (i + 1) from am_add i 1]
  refine am_R.ldi (i := (i + 1)) (xs := xs) (pc' := 635) rfl (am_wf 0 (by decide) h0) (by omega) (by omega) rfl ?_
  refine am_R.nxs 4 (pc' := 640) (lv' := [some (.ref 1000), some (.ref 1001), some (.ref 1021), some (.ref 1044), some (.int (Int32.ofNat i)), x5, x6]) (st' := [.int (Int32.ofNat i + 2), .ref 1000, .int (xs.getD (i + 1) 0), .ref 1001]) (h1 := am_h w g) rfl ?_
  rw [show (Int32.ofNat i + 2 : Int32) = Int32.ofNat (i + 2) from am_add i 2]
  refine am_R.ldi (i := (i + 2)) (xs := xs) (pc' := 641) rfl (am_wf 0 (by decide) h0) (by omega) (by omega) rfl ?_
  refine am_R.nxs 1 (pc' := 642) (lv' := [some (.ref 1000), some (.ref 1001), some (.ref 1021), some (.ref 1044), some (.int (Int32.ofNat i)), x5, x6]) (st' := [.ref 1044, .int (xs.getD (i + 2) 0), .int (xs.getD (i + 1) 0), .ref 1001]) (h1 := am_h w g) rfl ?_
  refine am_R.cs (mj := 80) (as := [.ref 1001, .int (xs.getD (i + 1) 0), .int (xs.getD (i + 2) 0), .ref 1044]) (r := []) (v := some (.int c)) (h1 := am_h w1 g1) (pc' := 645) rfl (hw) rfl ?_
  refine am_R.nxs 6 (pc' := 653) (lv' := [some (.ref 1000), some (.ref 1001), some (.ref 1021), some (.ref 1044), some (.int (Int32.ofNat i)), some (.int c), x6]) (st' := [.int (Int32.ofNat i + 1), .ref 1000, .ref 1021]) (h1 := am_h w1 g1) rfl ?_
  rw [show (Int32.ofNat i + 1 : Int32) = Int32.ofNat (i + 1) from am_add i 1]
  refine am_R.ldi (i := (i + 1)) (xs := xs) (pc' := 654) rfl (am_wf 0 (by decide) e0) (by omega) (by omega) rfl ?_
  refine am_R.nxs 4 (pc' := 659) (lv' := [some (.ref 1000), some (.ref 1001), some (.ref 1021), some (.ref 1044), some (.int (Int32.ofNat i)), some (.int c), x6]) (st' := [.int (Int32.ofNat i + 2), .ref 1000, .int (xs.getD (i + 1) 0), .ref 1021]) (h1 := am_h w1 g1) rfl ?_
  rw [show (Int32.ofNat i + 2 : Int32) = Int32.ofNat (i + 2) from am_add i 2]
  refine am_R.ldi (i := (i + 2)) (xs := xs) (pc' := 660) rfl (am_wf 0 (by decide) e0) (by omega) (by omega) rfl ?_
  refine am_R.cv (a := 1021) (as' := [.int (xs.getD (i + 1) 0), .int (xs.getD (i + 2) 0)]) (r := []) (v := some (.int b)) (h1 := am_h w2 g2) (pc' := 663) rfl rfl rfl rfl (am_wf 21 (by decide) e21) rfl rfl (hm) rfl ?_
  refine am_R.nxs 2 (pc' := 666) (lv' := [some (.ref 1000), some (.ref 1001), some (.ref 1021), some (.ref 1044), some (.int (Int32.ofNat i)), some (.int c), some (.int b)]) (st' := [.ref 1021]) (h1 := am_h w2 g2) rfl ?_
  refine am_R.cv (a := 1021) (as' := []) (r := []) (v := some (.int c)) (h1 := am_h w2 g2) (pc' := 669) rfl rfl rfl rfl (am_wf 21 (by decide) h21) rfl rfl (aw_k95 (w := w2) (d + 39) h21) rfl ?_
  refine am_R.ites 2 (P := c = c) (T := 676) (F := 674) (lv' := [some (.ref 1000), some (.ref 1001), some (.ref 1021), some (.ref 1044), some (.int (Int32.ofNat i)), some (.int c), some (.int b)]) (st' := []) (h1 := am_h w2 g2) rfl (fun c1 => ?_) (fun c1 => ?_)
  · refine am_R.ites 2 (P := ¬ c = 0) (T := 693) (F := 681) (lv' := [some (.ref 1000), some (.ref 1001), some (.ref 1021), some (.ref 1044), some (.int (Int32.ofNat i)), some (.int c), some (.int b)]) (st' := []) (h1 := am_h w2 g2) rfl (fun c2 => ?_) (fun c2 => ?_)
    · refine am_R.nxs 1 (pc' := 921) (lv' := [some (.ref 1000), some (.ref 1001), some (.ref 1021), some (.ref 1044), some (.int (Int32.ofNat i)), some (.int c), some (.int b)]) (st' := []) (h1 := am_h w2 g2) rfl ?_
      exact K
    · refine am_R.nxs 2 (pc' := 683) (lv' := [some (.ref 1000), some (.ref 1001), some (.ref 1021), some (.ref 1044), some (.int (Int32.ofNat i)), some (.int c), some (.int b)]) (st' := [.int 0, .ref 1044]) (h1 := am_h w2 g2) rfl ?_
      refine am_R.ldl (x := (b).toInt64) (pc' := 684) rfl (am_wf 44 (by decide) (ho (Decidable.not_not.mp c2))) rfl ?_
      refine am_R.ites 4 (P := (lg_cmp ((b).toInt64) ((b).toInt64)) = 0) (T := 693) (F := 691) (lv' := [some (.ref 1000), some (.ref 1001), some (.ref 1021), some (.ref 1044), some (.int (Int32.ofNat i)), some (.int c), some (.int b)]) (st' := []) (h1 := am_h w2 g2) rfl (fun c3 => ?_) (fun c3 => ?_)
      · refine am_R.nxs 1 (pc' := 921) (lv' := [some (.ref 1000), some (.ref 1001), some (.ref 1021), some (.ref 1044), some (.int (Int32.ofNat i)), some (.int c), some (.int b)]) (st' := []) (h1 := am_h w2 g2) rfl ?_
        exact K
      · exact absurd (aw_cmp _) c3
  · exact absurd rfl c1
set_option maxRecDepth 100000 in
theorem aw_L11 {w w1 w2 : Nat → am_C} {g g1 g2 : am_H} (d i : Nat) (x5 x6 : Option Value) {xs : List Int32} (h0 : w 0 = am_I 0 xs) (hi : i + 4 ≤ xs.length) (hx : xs.length ≤ 2048) {c b : Int32} (hw : am_R (d + 39) 85 0 [some (.ref 1001), some (.int (xs.getD (i + 1) 0)), some (.ref 1044), none] [] (am_h w g) (.inl (some (.int c))) (am_h w1 g1)) (e0 : w1 0 = am_I 0 xs) {f1 f2 f3 f4 f5 f6 : Int32} (e21 : w1 21 = aw_c21 f1 f2 f3 f4 f5 f6) (hm : am_R (d + 39) 142 0 [some (.ref 1021), some (.int (xs.getD (i + 1) 0))] [] (am_h w1 g1) (.inl (some (.int b))) (am_h w2 g2)) {ty wr wd wt sn : Int32} (h21 : w2 21 = aw_c21 c ty wr wd wt sn) (ho : c = 0 → w2 44 = .inr (3, [.long (b).toInt64])) {o : am_O} {h' : am_H} (K : am_R (d + 40) 0 921 (aw_lv i (some (.int c)) (some (.int b))) [] (am_h w2 g2) o h') : am_R (d + 40) 0 771 (aw_lv i x5 x6) [] (am_h w g) o h' := by
  refine am_R.nxs 5 (pc' := 777) (lv' := [some (.ref 1000), some (.ref 1001), some (.ref 1021), some (.ref 1044), some (.int (Int32.ofNat i)), x5, x6]) (st' := [.int (Int32.ofNat i + 1), .ref 1000, .ref 1001]) (h1 := am_h w g) rfl ?_
  rw [show (Int32.ofNat i + 1 : Int32) = Int32.ofNat (i + 1) from am_add i 1]
  refine am_R.ldi (i := (i + 1)) (xs := xs) (pc' := 778) rfl (am_wf 0 (by decide) h0) (by omega) (by omega) rfl ?_
  refine am_R.nxs 1 (pc' := 779) (lv' := [some (.ref 1000), some (.ref 1001), some (.ref 1021), some (.ref 1044), some (.int (Int32.ofNat i)), x5, x6]) (st' := [.ref 1044, .int (xs.getD (i + 1) 0), .ref 1001]) (h1 := am_h w g) rfl ?_
  refine am_R.cs (mj := 85) (as := [.ref 1001, .int (xs.getD (i + 1) 0), .ref 1044]) (r := []) (v := some (.int c)) (h1 := am_h w1 g1) (pc' := 782) rfl (hw) rfl ?_
  refine am_R.nxs 6 (pc' := 790) (lv' := [some (.ref 1000), some (.ref 1001), some (.ref 1021), some (.ref 1044), some (.int (Int32.ofNat i)), some (.int c), x6]) (st' := [.int (Int32.ofNat i + 1), .ref 1000, .ref 1021]) (h1 := am_h w1 g1) rfl ?_
  rw [show (Int32.ofNat i + 1 : Int32) = Int32.ofNat (i + 1) from am_add i 1]
  refine am_R.ldi (i := (i + 1)) (xs := xs) (pc' := 791) rfl (am_wf 0 (by decide) e0) (by omega) (by omega) rfl ?_
  refine am_R.cv (a := 1021) (as' := [.int (xs.getD (i + 1) 0)]) (r := []) (v := some (.int b)) (h1 := am_h w2 g2) (pc' := 794) rfl rfl rfl rfl (am_wf 21 (by decide) e21) rfl rfl (hm) rfl ?_
  refine am_R.nxs 2 (pc' := 797) (lv' := [some (.ref 1000), some (.ref 1001), some (.ref 1021), some (.ref 1044), some (.int (Int32.ofNat i)), some (.int c), some (.int b)]) (st' := [.ref 1021]) (h1 := am_h w2 g2) rfl ?_
  refine am_R.cv (a := 1021) (as' := []) (r := []) (v := some (.int c)) (h1 := am_h w2 g2) (pc' := 800) rfl rfl rfl rfl (am_wf 21 (by decide) h21) rfl rfl (aw_k95 (w := w2) (d + 39) h21) rfl ?_
  refine am_R.ites 2 (P := c = c) (T := 807) (F := 805) (lv' := [some (.ref 1000), some (.ref 1001), some (.ref 1021), some (.ref 1044), some (.int (Int32.ofNat i)), some (.int c), some (.int b)]) (st' := []) (h1 := am_h w2 g2) rfl (fun c1 => ?_) (fun c1 => ?_)
  · refine am_R.ites 2 (P := ¬ c = 0) (T := 824) (F := 812) (lv' := [some (.ref 1000), some (.ref 1001), some (.ref 1021), some (.ref 1044), some (.int (Int32.ofNat i)), some (.int c), some (.int b)]) (st' := []) (h1 := am_h w2 g2) rfl (fun c2 => ?_) (fun c2 => ?_)
    · refine am_R.nxs 1 (pc' := 921) (lv' := [some (.ref 1000), some (.ref 1001), some (.ref 1021), some (.ref 1044), some (.int (Int32.ofNat i)), some (.int c), some (.int b)]) (st' := []) (h1 := am_h w2 g2) rfl ?_
      exact K
    · refine am_R.nxs 2 (pc' := 814) (lv' := [some (.ref 1000), some (.ref 1001), some (.ref 1021), some (.ref 1044), some (.int (Int32.ofNat i)), some (.int c), some (.int b)]) (st' := [.int 0, .ref 1044]) (h1 := am_h w2 g2) rfl ?_
      refine am_R.ldl (x := (b).toInt64) (pc' := 815) rfl (am_wf 44 (by decide) (ho (Decidable.not_not.mp c2))) rfl ?_
      refine am_R.ites 4 (P := (lg_cmp ((b).toInt64) ((b).toInt64)) = 0) (T := 824) (F := 822) (lv' := [some (.ref 1000), some (.ref 1001), some (.ref 1021), some (.ref 1044), some (.int (Int32.ofNat i)), some (.int c), some (.int b)]) (st' := []) (h1 := am_h w2 g2) rfl (fun c3 => ?_) (fun c3 => ?_)
      · refine am_R.nxs 1 (pc' := 921) (lv' := [some (.ref 1000), some (.ref 1001), some (.ref 1021), some (.ref 1044), some (.int (Int32.ofNat i)), some (.int c), some (.int b)]) (st' := []) (h1 := am_h w2 g2) rfl ?_
        exact K
      · exact absurd (aw_cmp _) c3
  · exact absurd rfl c1
set_option maxRecDepth 100000 in
theorem aw_L12 {w w1 w2 : Nat → am_C} {g g1 g2 : am_H} (d i : Nat) (x5 x6 : Option Value) {xs : List Int32} (h0 : w 0 = am_I 0 xs) (hi : i + 4 ≤ xs.length) (hx : xs.length ≤ 2048) {c b : Int32} (hw : am_R (d + 39) 91 0 [some (.ref 1001), some (.int (xs.getD (i + 1) 0)), some (.ref 1044), none] [] (am_h w g) (.inl (some (.int c))) (am_h w1 g1)) (e0 : w1 0 = am_I 0 xs) {f1 f2 f3 f4 f5 f6 : Int32} (e21 : w1 21 = aw_c21 f1 f2 f3 f4 f5 f6) (hm : am_R (d + 39) 147 0 [some (.ref 1021), some (.int (xs.getD (i + 1) 0))] [] (am_h w1 g1) (.inl (some (.int b))) (am_h w2 g2)) {ty wr wd wt sn : Int32} (h21 : w2 21 = aw_c21 c ty wr wd wt sn) (ho : c = 0 → w2 44 = .inr (3, [.long (b).toInt64])) {o : am_O} {h' : am_H} (K : am_R (d + 40) 0 921 (aw_lv i (some (.int c)) (some (.int b))) [] (am_h w2 g2) o h') : am_R (d + 40) 0 827 (aw_lv i x5 x6) [] (am_h w g) o h' := by
  refine am_R.nxs 5 (pc' := 833) (lv' := [some (.ref 1000), some (.ref 1001), some (.ref 1021), some (.ref 1044), some (.int (Int32.ofNat i)), x5, x6]) (st' := [.int (Int32.ofNat i + 1), .ref 1000, .ref 1001]) (h1 := am_h w g) rfl ?_
  rw [show (Int32.ofNat i + 1 : Int32) = Int32.ofNat (i + 1) from am_add i 1]
  refine am_R.ldi (i := (i + 1)) (xs := xs) (pc' := 834) rfl (am_wf 0 (by decide) h0) (by omega) (by omega) rfl ?_
  refine am_R.nxs 1 (pc' := 835) (lv' := [some (.ref 1000), some (.ref 1001), some (.ref 1021), some (.ref 1044), some (.int (Int32.ofNat i)), x5, x6]) (st' := [.ref 1044, .int (xs.getD (i + 1) 0), .ref 1001]) (h1 := am_h w g) rfl ?_
  refine am_R.cs (mj := 91) (as := [.ref 1001, .int (xs.getD (i + 1) 0), .ref 1044]) (r := []) (v := some (.int c)) (h1 := am_h w1 g1) (pc' := 838) rfl (hw) rfl ?_
  refine am_R.nxs 6 (pc' := 846) (lv' := [some (.ref 1000), some (.ref 1001), some (.ref 1021), some (.ref 1044), some (.int (Int32.ofNat i)), some (.int c), x6]) (st' := [.int (Int32.ofNat i + 1), .ref 1000, .ref 1021]) (h1 := am_h w1 g1) rfl ?_
  rw [show (Int32.ofNat i + 1 : Int32) = Int32.ofNat (i + 1) from am_add i 1]
  refine am_R.ldi (i := (i + 1)) (xs := xs) (pc' := 847) rfl (am_wf 0 (by decide) e0) (by omega) (by omega) rfl ?_
  refine am_R.cv (a := 1021) (as' := [.int (xs.getD (i + 1) 0)]) (r := []) (v := some (.int b)) (h1 := am_h w2 g2) (pc' := 850) rfl rfl rfl rfl (am_wf 21 (by decide) e21) rfl rfl (hm) rfl ?_
  refine am_R.nxs 2 (pc' := 853) (lv' := [some (.ref 1000), some (.ref 1001), some (.ref 1021), some (.ref 1044), some (.int (Int32.ofNat i)), some (.int c), some (.int b)]) (st' := [.ref 1021]) (h1 := am_h w2 g2) rfl ?_
  refine am_R.cv (a := 1021) (as' := []) (r := []) (v := some (.int c)) (h1 := am_h w2 g2) (pc' := 856) rfl rfl rfl rfl (am_wf 21 (by decide) h21) rfl rfl (aw_k95 (w := w2) (d + 39) h21) rfl ?_
  refine am_R.ites 2 (P := c = c) (T := 863) (F := 861) (lv' := [some (.ref 1000), some (.ref 1001), some (.ref 1021), some (.ref 1044), some (.int (Int32.ofNat i)), some (.int c), some (.int b)]) (st' := []) (h1 := am_h w2 g2) rfl (fun c1 => ?_) (fun c1 => ?_)
  · refine am_R.ites 2 (P := ¬ c = 0) (T := 880) (F := 868) (lv' := [some (.ref 1000), some (.ref 1001), some (.ref 1021), some (.ref 1044), some (.int (Int32.ofNat i)), some (.int c), some (.int b)]) (st' := []) (h1 := am_h w2 g2) rfl (fun c2 => ?_) (fun c2 => ?_)
    · refine am_R.nxs 1 (pc' := 921) (lv' := [some (.ref 1000), some (.ref 1001), some (.ref 1021), some (.ref 1044), some (.int (Int32.ofNat i)), some (.int c), some (.int b)]) (st' := []) (h1 := am_h w2 g2) rfl ?_
      exact K
    · refine am_R.nxs 2 (pc' := 870) (lv' := [some (.ref 1000), some (.ref 1001), some (.ref 1021), some (.ref 1044), some (.int (Int32.ofNat i)), some (.int c), some (.int b)]) (st' := [.int 0, .ref 1044]) (h1 := am_h w2 g2) rfl ?_
      refine am_R.ldl (x := (b).toInt64) (pc' := 871) rfl (am_wf 44 (by decide) (ho (Decidable.not_not.mp c2))) rfl ?_
      refine am_R.ites 4 (P := (lg_cmp ((b).toInt64) ((b).toInt64)) = 0) (T := 880) (F := 878) (lv' := [some (.ref 1000), some (.ref 1001), some (.ref 1021), some (.ref 1044), some (.int (Int32.ofNat i)), some (.int c), some (.int b)]) (st' := []) (h1 := am_h w2 g2) rfl (fun c3 => ?_) (fun c3 => ?_)
      · refine am_R.nxs 1 (pc' := 921) (lv' := [some (.ref 1000), some (.ref 1001), some (.ref 1021), some (.ref 1044), some (.int (Int32.ofNat i)), some (.int c), some (.int b)]) (st' := []) (h1 := am_h w2 g2) rfl ?_
        exact K
      · exact absurd (aw_cmp _) c3
  · exact absurd rfl c1
end
section
/-! The calls of breaches, breach, count in the law. -/
theorem aw_get {w : Nat → am_C} {sp k : Nat} (h : aw_Shs w sp) (hk : k < 3) : ∃ (rs : List Value) (r : Nat) (to ma pi br bk co : List Int32), w 4 = .inr (5, rs) ∧ rs.length = 3 ∧ r < 4 ∧ rs[k]? = some (.ref (1005 + 4 * r)) ∧ aw_MC w to ma pi br bk co ∧ aw_Sh w r k to ma pi br bk co := by
  obtain ⟨r0, r1, r2, to, ma, pi, br, bk, co, h4, hp, hM, hT, h0, h1, h2⟩ := h
  rcases (by omega : k = 0 ∨ k = 1 ∨ k = 2) with rfl | rfl | rfl
  · exact ⟨_, r0, to, ma, pi, br, bk, co, h4, rfl, hp.1, rfl, hM, h0⟩
  · exact ⟨_, r1, to, ma, pi, br, bk, co, h4, rfl, hp.2.1, rfl, hM, h1⟩
  · exact ⟨_, r2, to, ma, pi, br, bk, co, h4, rfl, hp.2.2.1, rfl, hM, h2⟩
theorem aw_sh3 {v : Int32} (h : ¬ (v < 0 ∨ ¬ v < 3)) : ∃ k, k < 3 ∧ v = Int32.ofNat k := by
  obtain ⟨k, hkb, hk⟩ := aw_nat (fun q => h (Or.inl q))
  refine ⟨k, ?_, hk⟩
  rw [hk] at h
  exact (am_ltN (i := k) (n := 3) hkb (by decide)).mp (Decidable.not_not.mp (fun q => h (Or.inr q)))
theorem aw_gt2 {v : Int32} (h : v < 0 ∨ ¬ v < 3) : v < 0 ∨ 2 < v := by
  rcases h with h | h
  · exact Or.inl h
  · refine Or.inr ?_
    rw [Int32.lt_iff_toInt_lt] at h ⊢
    have e1 : (3 : Int32).toInt = 3 := rfl
    have e2 : (2 : Int32).toInt = 2 := rfl
    omega
theorem aw_sz1 {g : am_H} {x : Nat} (h : am_N x = 6) : am_sz (g ++ [.inl (x, [])]) ≤ am_sz g + 14000 := by
  rw [am_sz_push]
  show am_sz g + am_N x ≤ _
  omega
theorem aw_nz {n : Nat} (h1 : 1 ≤ n) (h2 : n ≤ 120) : ¬ Int32.ofNat n = 0 := fun q => by
  have := (am_eqN (i := n) (n := 0) (by omega) (by decide)).mp q
  omega
set_option maxRecDepth 100000 in
theorem aw_o7 : aw_Op 504 := by
  intro d i w g x5 x6 xs hI h0 hi hx
  obtain ⟨tl, pl, sp, ft, wd, wt, sn, h1, h21, hT, hP, hS, hC, u, hO⟩ := hI
  by_cases hs : xs.getD (i + 1) 0 < 0 ∨ ¬ xs.getD (i + 1) 0 < 3
  · refine ⟨am_pu w 21 (aw_c21 1 (Int32.ofNat tl) (Int32.ofNat pl) wd wt sn), g ++ [.inl (8, [])], some (.int 1), some (.int 0), ⟨tl, pl, sp, 1, wd, wt, sn, h1, rfl, hT, hP, aw_Shs_up (by omega) hS, hC, u, hO⟩, h0, by simp, aw_sz1 rfl, fun o h' K => ?_⟩
    exact aw_L7 d i x5 x6 h0 hi hx (aw_W76t8 (d + 38) h1 _ (aw_k77c (d + 36) h1 _ hs)) h0 h21 (aw_k138c (d + 38) h21 _ (aw_gt2 hs)) rfl (fun q => absurd q (by decide)) K
  · obtain ⟨k, hk, hke⟩ := aw_sh3 hs
    obtain ⟨rs, r, to, ma, pi, br, bk, co, h4, hl, hr, hrs, ⟨m1, m2, m3, m4, m5, m6, m7, m8, m9, m10, m11, m12⟩, wc, bc, sc, ic, cc, dp, rd, ws, pc, bw, ⟨t1, t2, t3, t4, t5, t6, t7⟩, hsh⟩ := aw_get hS hk
    rcases hsh with ⟨hd, hm⟩ | ⟨hd, js, b, j1, j2, j3, j4, j5, j6, b1, b2, b3, b4, q1, q2, q3, q4, q5⟩
    · refine ⟨am_pu w 21 (aw_c21 2 (Int32.ofNat tl) (Int32.ofNat pl) wd wt sn), g ++ [.inl (9, [])], some (.int 2), some (.int 0), ⟨tl, pl, sp, 2, wd, wt, sn, h1, rfl, hT, hP, aw_Shs_up (by omega) hS, hC, u, hO⟩, h0, by simp, aw_sz1 rfl, fun o h' K => ?_⟩
      exact aw_L7 d i x5 x6 h0 hi hx (aw_W76t9 (d + 38) h1 _ (by rw [hke]; exact aw_k77b (d + 36) h1 h4 hl hk hr hrs t1 hd)) h0 h21 (by rw [hke]; exact aw_k138b (d + 38) h21 m2 m8 hk hm) rfl (fun q => absurd q (by decide)) K
    · subst b2
      refine ⟨am_pu (am_pu w 44 (.inr (3, [.long (Int32.ofNat b).toInt64]))) 21 (aw_c21 0 (Int32.ofNat tl) (Int32.ofNat pl) wd wt sn), g, some (.int 0), some (.int (Int32.ofNat b)), ⟨tl, pl, sp, 0, wd, wt, sn, h1, rfl, hT, hP, aw_Shs_up (by omega) (aw_Shs_up (by omega) hS), hC, _, rfl⟩, h0, by omega, by omega, fun o h' K => ?_⟩
      exact aw_L7 d i x5 x6 h0 hi hx (aw_W76a (d + 38) h1 _ (by rw [hke]; exact aw_k77a (d + 36) h1 h4 hl hk hr hrs t1 hd) hO) h0 h21 (by rw [hke, ← b3]; exact aw_k138a (w := am_pu w 44 _) (d + 38) h21 m2 m8 hk (by rw [j4]; exact aw_nz j1 j2) m5 m11) rfl (fun _ => rfl) K
set_option maxRecDepth 100000 in
theorem aw_o8 : aw_Op 560 := by
  intro d i w g x5 x6 xs hI h0 hi hx
  obtain ⟨tl, pl, sp, ft, wd, wt, sn, h1, h21, hT, hP, hS, hC, u, hO⟩ := hI
  by_cases hs : xs.getD (i + 1) 0 < 0 ∨ ¬ xs.getD (i + 1) 0 < 3
  · refine ⟨am_pu w 21 (aw_c21 1 (Int32.ofNat tl) (Int32.ofNat pl) wd wt sn), g ++ [.inl (8, [])], some (.int 1), some (.int 0), ⟨tl, pl, sp, 1, wd, wt, sn, h1, rfl, hT, hP, aw_Shs_up (by omega) hS, hC, u, hO⟩, h0, by simp, aw_sz1 rfl, fun o h' K => ?_⟩
    exact aw_L8 d i x5 x6 h0 hi hx (aw_W78t8 (d + 38) h1 _ _ (aw_k79c (d + 36) h1 _ _ hs)) h0 h21 (aw_k139c (d + 38) h21 _ _ (aw_gt2 hs)) rfl (fun q => absurd q (by decide)) K
  · obtain ⟨k, hk, hke⟩ := aw_sh3 hs
    obtain ⟨rs, r, to, ma, pi, br, bk, co, h4, hl, hr, hrs, ⟨m1, m2, m3, m4, m5, m6, m7, m8, m9, m10, m11, m12⟩, wc, bc, sc, ic, cc, dp, rd, ws, pc, bw, ⟨t1, t2, t3, t4, t5, t6, t7⟩, hsh⟩ := aw_get hS hk
    rcases hsh with ⟨hd, hm⟩ | ⟨hd, js, b, j1, j2, j3, j4, j5, j6, b1, b2, b3, b4, q1, q2, q3, q4, q5⟩
    · refine ⟨am_pu w 21 (aw_c21 2 (Int32.ofNat tl) (Int32.ofNat pl) wd wt sn), g ++ [.inl (9, [])], some (.int 2), some (.int 0), ⟨tl, pl, sp, 2, wd, wt, sn, h1, rfl, hT, hP, aw_Shs_up (by omega) hS, hC, u, hO⟩, h0, by simp, aw_sz1 rfl, fun o h' K => ?_⟩
      exact aw_L8 d i x5 x6 h0 hi hx (aw_W78t9 (d + 38) h1 _ _ (by rw [hke]; exact aw_k79b (d + 36) h1 h4 hl hk hr hrs t1 hd _)) h0 h21 (by rw [hke]; exact aw_k139b (d + 38) h21 m2 m8 hk hm _) rfl (fun q => absurd q (by decide)) K
    · subst b2
      by_cases hv : xs.getD (i + 2) 0 < 0 ∨ Int32.ofNat b ≤ xs.getD (i + 2) 0
      · refine ⟨am_pu (am_pu w 44 (.inr (3, [.long (-1).toInt64]))) 21 (aw_c21 0 (Int32.ofNat tl) (Int32.ofNat pl) wd wt sn), g, some (.int 0), some (.int (-1)), ⟨tl, pl, sp, 0, wd, wt, sn, h1, rfl, hT, hP, aw_Shs_up (by omega) (aw_Shs_up (by omega) hS), hC, _, rfl⟩, h0, by omega, by omega, fun o h' K => ?_⟩
        exact aw_L8 d i x5 x6 h0 hi hx (aw_W78a (d + 38) h1 _ _ (by rw [hke]; exact aw_k79e (d + 36) h1 h4 hl hk hr hrs t1 hd _ hv) hO) h0 h21 (by rw [hke]; exact aw_k139e (w := am_pu w 44 _) (d + 38) h21 m2 m8 hk (by rw [j4]; exact aw_nz j1 j2) m5 m11 m4 m10 b3 b1 _ hv) rfl (fun _ => rfl) K
      · obtain ⟨q, hqb, hqe⟩ := aw_nat (fun z => hv (Or.inl z))
        have hq : q < b := by
          rw [hqe] at hv
          exact (am_ltN hqb (by omega)).mp (Int32.not_le.mp (fun z => hv (Or.inr z)))
        refine ⟨am_pu (am_pu w 44 (.inr (3, [.long (bw.getD q 0).toInt64]))) 21 (aw_c21 0 (Int32.ofNat tl) (Int32.ofNat pl) wd wt sn), g, some (.int 0), some (.int (bw.getD q 0)), ⟨tl, pl, sp, 0, wd, wt, sn, h1, rfl, hT, hP, aw_Shs_up (by omega) (aw_Shs_up (by omega) hS), hC, _, rfl⟩, h0, by omega, by omega, fun o h' K => ?_⟩
        exact aw_L8 d i x5 x6 h0 hi hx (aw_W78a (d + 38) h1 _ _ (by rw [hke, hqe]; exact aw_k79a (d + 36) h1 h4 hl hk hr hrs t1 t4 t7 hd q hq (by omega)) hO) h0 h21 (by rw [hke, hqe, b4 q hq]; exact aw_k139a (w := am_pu w 44 _) (d + 38) h21 m2 m8 hk (by rw [j4]; exact aw_nz j1 j2) m5 m11 m4 m10 b3 b1 q hq) rfl (fun _ => rfl) K
theorem aw_ge3 {v : Int32} (h : v < 0 ∨ ¬ v < 3) : v < 0 ∨ 3 ≤ v := h.elim Or.inl (fun q => Or.inr (Int32.not_lt.mp q))
set_option maxRecDepth 100000 in
theorem aw_o9 : aw_Op 628 := by
  intro d i w g x5 x6 xs hI h0 hi hx
  obtain ⟨tl, pl, sp, ft, wd, wt, sn, h1, h21, hT, hP, hS, hC, u, hO⟩ := hI
  by_cases hs : xs.getD (i + 1) 0 < 0 ∨ ¬ xs.getD (i + 1) 0 < 3
  · refine ⟨am_pu w 21 (aw_c21 1 (Int32.ofNat tl) (Int32.ofNat pl) wd wt sn), g ++ [.inl (8, [])], some (.int 1), some (.int 0), ⟨tl, pl, sp, 1, wd, wt, sn, h1, rfl, hT, hP, aw_Shs_up (by omega) hS, hC, u, hO⟩, h0, by simp, aw_sz1 rfl, fun o h' K => ?_⟩
    exact aw_L9 d i x5 x6 h0 hi hx (aw_W80t8 (d + 38) h1 _ _ (aw_k81c (d + 36) h1 _ _ hs)) h0 h21 (aw_k140c (d + 38) h21 _ _ (aw_ge3 hs)) rfl (fun q => absurd q (by decide)) K
  · obtain ⟨k, hk, hke⟩ := aw_sh3 hs
    obtain ⟨rs, r, to, ma, pi, br, bk, co, h4, hl, hr, hrs, ⟨m1, m2, m3, m4, m5, m6, m7, m8, m9, m10, m11, m12⟩, wc, bc, sc, ic, cc, dp, rd, ws, pc, bw, ⟨t1, t2, t3, t4, t5, t6, t7⟩, hsh⟩ := aw_get hS hk
    by_cases hv : xs.getD (i + 2) 0 < 0 ∨ ¬ xs.getD (i + 2) 0 ≤ 3
    · refine ⟨am_pu w 21 (aw_c21 2 (Int32.ofNat tl) (Int32.ofNat pl) wd wt sn), g ++ [.inl (10, [])], some (.int 2), some (.int 0), ⟨tl, pl, sp, 2, wd, wt, sn, h1, rfl, hT, hP, aw_Shs_up (by omega) hS, hC, u, hO⟩, h0, by simp, aw_sz1 rfl, fun o h' K => ?_⟩
      exact aw_L9 d i x5 x6 h0 hi hx (aw_W80t10 (d + 38) h1 _ _ (by rw [hke]; exact aw_k81d (d + 36) h1 hk _ hv)) h0 h21 (by rw [hke]; exact aw_k140d (d + 38) h21 hk _ hv) rfl (fun q => absurd q (by decide)) K
    · have h5 : ¬ xs.getD (i + 2) 0 < 0 := fun z => hv (Or.inl z)
      have h6 : xs.getD (i + 2) 0 ≤ 3 := Decidable.not_not.mp (fun z => hv (Or.inr z))
      rcases hsh with ⟨hd, hm⟩ | ⟨hd, js, b, j1, j2, j3, j4, j5, j6, b1, b2, b3, b4, q1, q2, q3, q4, q5⟩
      · refine ⟨am_pu w 21 (aw_c21 3 (Int32.ofNat tl) (Int32.ofNat pl) wd wt sn), g ++ [.inl (9, [])], some (.int 3), some (.int 0), ⟨tl, pl, sp, 3, wd, wt, sn, h1, rfl, hT, hP, aw_Shs_up (by omega) hS, hC, u, hO⟩, h0, by simp, aw_sz1 rfl, fun o h' K => ?_⟩
        exact aw_L9 d i x5 x6 h0 hi hx (aw_W80t9 (d + 38) h1 _ _ (by rw [hke]; exact aw_k81b (d + 36) h1 h4 hl hk hr hrs t1 hd _ h5 h6)) h0 h21 (by rw [hke]; exact aw_k140b (d + 38) h21 m2 m8 hk _ h5 h6 hm) rfl (fun q => absurd q (by decide)) K
      · obtain ⟨q, hqb, hqe⟩ := aw_nat h5
        have hq : q < 4 := by
          rw [hqe] at h6
          exact Nat.lt_succ_of_le ((am_leN (i := q) (n := 3) hqb (by decide)).mp h6)
        have hM := fun (v : Int32) => aw_k140a (w := am_pu w 44 (.inr (3, [.long v.toInt64]))) (g := g) (d + 38) h21 m2 m8 hk m6 m12 q hq (by rw [j4]; exact aw_nz j1 j2)
        rcases (by omega : q = 0 ∨ q = 1 ∨ q = 2 ∨ q = 3) with rfl | rfl | rfl | rfl
        · have hM := hM sc
          rw [show co.getD (4 * k + 0) 0 = sc from q1.symm] at hM
          refine ⟨am_pu (am_pu w 44 (.inr (3, [.long (sc).toInt64]))) 21 (aw_c21 0 (Int32.ofNat tl) (Int32.ofNat pl) wd wt sn), g, some (.int 0), some (.int (sc)), ⟨tl, pl, sp, 0, wd, wt, sn, h1, rfl, hT, hP, aw_Shs_up (by omega) (aw_Shs_up (by omega) hS), hC, _, rfl⟩, h0, by omega, by omega, fun o h' K => ?_⟩
          exact aw_L9 d i x5 x6 h0 hi hx (aw_W80a (d + 38) h1 _ _ (by rw [hke, hqe]; exact aw_k81a0 (d + 36) h1 h4 hl hk hr hrs t1 hd) hO) h0 h21 (by rw [hke, hqe]; exact hM) rfl (fun _ => rfl) K
        · have hM := hM ic
          rw [show co.getD (4 * k + 1) 0 = ic from q2.symm] at hM
          refine ⟨am_pu (am_pu w 44 (.inr (3, [.long (ic).toInt64]))) 21 (aw_c21 0 (Int32.ofNat tl) (Int32.ofNat pl) wd wt sn), g, some (.int 0), some (.int (ic)), ⟨tl, pl, sp, 0, wd, wt, sn, h1, rfl, hT, hP, aw_Shs_up (by omega) (aw_Shs_up (by omega) hS), hC, _, rfl⟩, h0, by omega, by omega, fun o h' K => ?_⟩
          exact aw_L9 d i x5 x6 h0 hi hx (aw_W80a (d + 38) h1 _ _ (by rw [hke, hqe]; exact aw_k81a1 (d + 36) h1 h4 hl hk hr hrs t1 hd) hO) h0 h21 (by rw [hke, hqe]; exact hM) rfl (fun _ => rfl) K
        · have hM := hM cc
          rw [show co.getD (4 * k + 2) 0 = cc from q3.symm] at hM
          refine ⟨am_pu (am_pu w 44 (.inr (3, [.long (cc).toInt64]))) 21 (aw_c21 0 (Int32.ofNat tl) (Int32.ofNat pl) wd wt sn), g, some (.int 0), some (.int (cc)), ⟨tl, pl, sp, 0, wd, wt, sn, h1, rfl, hT, hP, aw_Shs_up (by omega) (aw_Shs_up (by omega) hS), hC, _, rfl⟩, h0, by omega, by omega, fun o h' K => ?_⟩
          exact aw_L9 d i x5 x6 h0 hi hx (aw_W80a (d + 38) h1 _ _ (by rw [hke, hqe]; exact aw_k81a2 (d + 36) h1 h4 hl hk hr hrs t1 hd) hO) h0 h21 (by rw [hke, hqe]; exact hM) rfl (fun _ => rfl) K
        · have hM := hM dp
          rw [show co.getD (4 * k + 3) 0 = dp from q4.symm] at hM
          refine ⟨am_pu (am_pu w 44 (.inr (3, [.long (dp).toInt64]))) 21 (aw_c21 0 (Int32.ofNat tl) (Int32.ofNat pl) wd wt sn), g, some (.int 0), some (.int (dp)), ⟨tl, pl, sp, 0, wd, wt, sn, h1, rfl, hT, hP, aw_Shs_up (by omega) (aw_Shs_up (by omega) hS), hC, _, rfl⟩, h0, by omega, by omega, fun o h' K => ?_⟩
          exact aw_L9 d i x5 x6 h0 hi hx (aw_W80a (d + 38) h1 _ _ (by rw [hke, hqe]; exact aw_k81a3 (d + 36) h1 h4 hl hk hr hrs t1 hd) hO) h0 h21 (by rw [hke, hqe]; exact hM) rfl (fun _ => rfl) K
end
section
/-! cell: the class, the reference, the call in the law. -/
theorem aw_k67a {w : Nat → am_C} {g : am_H} (d : Nat) {tl pl sp : Nat} (h1 : w 1 = aw_c1 tl pl sp) {rs : List Value} (h4 : w 4 = .inr (5, rs)) (hl : rs.length = 3) {k r : Nat} (hk : k < 3) (hr : r < 4) (hrs : rs[k]? = some (.ref (1005 + 4 * r))) {wc bc sc ic cc dp rd : Int32} (hT : w (5 + 4 * r) = aw_cT r wc bc sc ic cc dp rd) {pc : List Int32} (hP : w (7 + 4 * r) = am_I 0 pc) (hpl : pc.length = 576) {x y : Nat} (hx : x < 24) (hy : y < 24) (hd : rd = 1) : am_R (d + 2) 67 0 [some (.ref 1001), some (.int (Int32.ofNat k)), some (.int (Int32.ofNat x)), some (.int (Int32.ofNat y))] [] (am_h w g) (.inl (some (.int (pc.getD (y * 24 + x) 0)))) (am_h w g) := by
  refine am_R.nxs 2 (pc' := 2) (lv' := [some (.ref 1001), some (.int (Int32.ofNat k)), some (.int (Int32.ofNat x)), some (.int (Int32.ofNat y))]) (st' := [.int (Int32.ofNat x), .ref 1001]) (h1 := am_h w g) rfl ?_
  refine am_R.cv (a := 1001) (as' := [.int (Int32.ofNat x)]) (r := []) (v := none) (h1 := am_h w g) (pc' := 5) rfl rfl rfl rfl (am_wf 1 (by decide) h1) rfl rfl (aw_k68a (d + 1) _ _ (aw_nn x) ((am_ltN (n := 24) (by omega) (by decide)).mpr hx)) rfl ?_
  refine am_R.nxs 2 (pc' := 7) (lv' := [some (.ref 1001), some (.int (Int32.ofNat k)), some (.int (Int32.ofNat x)), some (.int (Int32.ofNat y))]) (st' := [.int (Int32.ofNat y), .ref 1001]) (h1 := am_h w g) rfl ?_
  refine am_R.cv (a := 1001) (as' := [.int (Int32.ofNat y)]) (r := []) (v := none) (h1 := am_h w g) (pc' := 10) rfl rfl rfl rfl (am_wf 1 (by decide) h1) rfl rfl (aw_k68a (d + 1) _ _ (aw_nn y) ((am_ltN (n := 24) (by omega) (by decide)).mpr hy)) rfl ?_
  refine am_R.nxs 2 (pc' := 12) (lv' := [some (.ref 1001), some (.int (Int32.ofNat k)), some (.int (Int32.ofNat x)), some (.int (Int32.ofNat y))]) (st' := [.int (Int32.ofNat k), .ref 1001]) (h1 := am_h w g) rfl ?_
  refine am_R.cv (a := 1001) (as' := [.int (Int32.ofNat k)]) (r := []) (v := some (.ref (1005 + 4 * r))) (h1 := am_h w g) (pc' := 15) rfl rfl rfl rfl (am_wf 1 (by decide) h1) rfl rfl (aw_k69a d h1 h4 hl hk hr hrs hT hd) rfl ?_
  refine am_R.gf (pc' := 18) (v := .ref (1007 + 4 * r)) rfl (aw_at5 hr hT) rfl rfl rfl ?_
  refine am_R.nxs 3 (pc' := 22) (lv' := [some (.ref 1001), some (.int (Int32.ofNat k)), some (.int (Int32.ofNat x)), some (.int (Int32.ofNat y))]) (st' := [.int (Int32.ofNat y * 24), .ref (1007 + 4 * r)]) (h1 := am_h w g) rfl ?_
  rw [show (Int32.ofNat y * 24 : Int32) = Int32.ofNat (y * 24) from am_mul y 24]
  refine am_R.nxs 2 (pc' := 24) (lv' := [some (.ref 1001), some (.int (Int32.ofNat k)), some (.int (Int32.ofNat x)), some (.int (Int32.ofNat y))]) (st' := [.int (Int32.ofNat (y * 24) + Int32.ofNat x), .ref (1007 + 4 * r)]) (h1 := am_h w g) rfl ?_
  rw [show (Int32.ofNat (y * 24) + Int32.ofNat x : Int32) = Int32.ofNat ((y * 24) + x) from am_add (y * 24) x]
  refine am_R.ldi (i := ((y * 24) + x)) (xs := pc) (pc' := 25) rfl (aw_at7 hr hP) (by omega) (by omega) rfl ?_
  exact am_R.reti rfl rfl rfl
theorem aw_k67b {w : Nat → am_C} {g : am_H} (d : Nat) {tl pl sp : Nat} (h1 : w 1 = aw_c1 tl pl sp) {rs : List Value} (h4 : w 4 = .inr (5, rs)) (hl : rs.length = 3) {k r : Nat} (hk : k < 3) (hr : r < 4) (hrs : rs[k]? = some (.ref (1005 + 4 * r))) {wc bc sc ic cc dp rd : Int32} (hT : w (5 + 4 * r) = aw_cT r wc bc sc ic cc dp rd) {x y : Int32} (hx : ¬ x < 0 ∧ x < 24) (hy : ¬ y < 0 ∧ y < 24) (hd : rd = 0) : am_R (d + 2) 67 0 [some (.ref 1001), some (.int (Int32.ofNat k)), some (.int x), some (.int y)] [] (am_h w g) (.inr (1000 + (am_h w g).length)) (am_h w (g ++ [.inl (9, [])])) := by
  refine am_R.nxs 2 (pc' := 2) (lv' := [some (.ref 1001), some (.int (Int32.ofNat k)), some (.int x), some (.int y)]) (st' := [.int x, .ref 1001]) (h1 := am_h w g) rfl ?_
  refine am_R.cv (a := 1001) (as' := [.int x]) (r := []) (v := none) (h1 := am_h w g) (pc' := 5) rfl rfl rfl rfl (am_wf 1 (by decide) h1) rfl rfl (aw_k68a (d + 1) _ _ hx.1 hx.2) rfl ?_
  refine am_R.nxs 2 (pc' := 7) (lv' := [some (.ref 1001), some (.int (Int32.ofNat k)), some (.int x), some (.int y)]) (st' := [.int y, .ref 1001]) (h1 := am_h w g) rfl ?_
  refine am_R.cv (a := 1001) (as' := [.int y]) (r := []) (v := none) (h1 := am_h w g) (pc' := 10) rfl rfl rfl rfl (am_wf 1 (by decide) h1) rfl rfl (aw_k68a (d + 1) _ _ hy.1 hy.2) rfl ?_
  refine am_R.nxs 2 (pc' := 12) (lv' := [some (.ref 1001), some (.int (Int32.ofNat k)), some (.int x), some (.int y)]) (st' := [.int (Int32.ofNat k), .ref 1001]) (h1 := am_h w g) rfl ?_
  exact am_R.cvp (a := 1001) (as' := [.int (Int32.ofNat k)]) (r := []) rfl rfl rfl rfl (am_wf 1 (by decide) h1) rfl rfl (aw_k69b d h1 h4 hl hk hr hrs hT hd) rfl
theorem aw_k67c {w : Nat → am_C} {g : am_H} (d : Nat) {tl pl sp : Nat} (h1 : w 1 = aw_c1 tl pl sp) {x y : Int32} (hx : ¬ x < 0 ∧ x < 24) (hy : ¬ y < 0 ∧ y < 24) {s : Int32} (hs : s < 0 ∨ ¬ s < 3) : am_R (d + 2) 67 0 [some (.ref 1001), some (.int s), some (.int x), some (.int y)] [] (am_h w g) (.inr (1000 + (am_h w g).length)) (am_h w (g ++ [.inl (8, [])])) := by
  refine am_R.nxs 2 (pc' := 2) (lv' := [some (.ref 1001), some (.int s), some (.int x), some (.int y)]) (st' := [.int x, .ref 1001]) (h1 := am_h w g) rfl ?_
  refine am_R.cv (a := 1001) (as' := [.int x]) (r := []) (v := none) (h1 := am_h w g) (pc' := 5) rfl rfl rfl rfl (am_wf 1 (by decide) h1) rfl rfl (aw_k68a (d + 1) _ _ hx.1 hx.2) rfl ?_
  refine am_R.nxs 2 (pc' := 7) (lv' := [some (.ref 1001), some (.int s), some (.int x), some (.int y)]) (st' := [.int y, .ref 1001]) (h1 := am_h w g) rfl ?_
  refine am_R.cv (a := 1001) (as' := [.int y]) (r := []) (v := none) (h1 := am_h w g) (pc' := 10) rfl rfl rfl rfl (am_wf 1 (by decide) h1) rfl rfl (aw_k68a (d + 1) _ _ hy.1 hy.2) rfl ?_
  refine am_R.nxs 2 (pc' := 12) (lv' := [some (.ref 1001), some (.int s), some (.int x), some (.int y)]) (st' := [.int s, .ref 1001]) (h1 := am_h w g) rfl ?_
  exact am_R.cvp (a := 1001) (as' := [.int s]) (r := []) rfl rfl rfl rfl (am_wf 1 (by decide) h1) rfl rfl (aw_k69c d h1 s hs) rfl
theorem aw_k67e {w : Nat → am_C} {g : am_H} (d : Nat) {tl pl sp : Nat} (h1 : w 1 = aw_c1 tl pl sp) {s x y : Int32} (hx : x < 0 ∨ ¬ x < 24) : am_R (d + 2) 67 0 [some (.ref 1001), some (.int s), some (.int x), some (.int y)] [] (am_h w g) (.inr (1000 + (am_h w g).length)) (am_h w (g ++ [.inl (8, [])])) := by
  refine am_R.nxs 2 (pc' := 2) (lv' := [some (.ref 1001), some (.int s), some (.int x), some (.int y)]) (st' := [.int x, .ref 1001]) (h1 := am_h w g) rfl ?_
  exact am_R.cvp (a := 1001) (as' := [.int x]) (r := []) rfl rfl rfl rfl (am_wf 1 (by decide) h1) rfl rfl (aw_k68b (d + 1) _ _ hx) rfl
theorem aw_k67f {w : Nat → am_C} {g : am_H} (d : Nat) {tl pl sp : Nat} (h1 : w 1 = aw_c1 tl pl sp) {s x y : Int32} (hx : ¬ x < 0 ∧ x < 24) (hy : y < 0 ∨ ¬ y < 24) : am_R (d + 2) 67 0 [some (.ref 1001), some (.int s), some (.int x), some (.int y)] [] (am_h w g) (.inr (1000 + (am_h w g).length)) (am_h w (g ++ [.inl (8, [])])) := by
  refine am_R.nxs 2 (pc' := 2) (lv' := [some (.ref 1001), some (.int s), some (.int x), some (.int y)]) (st' := [.int x, .ref 1001]) (h1 := am_h w g) rfl ?_
  refine am_R.cv (a := 1001) (as' := [.int x]) (r := []) (v := none) (h1 := am_h w g) (pc' := 5) rfl rfl rfl rfl (am_wf 1 (by decide) h1) rfl rfl (aw_k68a (d + 1) _ _ hx.1 hx.2) rfl ?_
  refine am_R.nxs 2 (pc' := 7) (lv' := [some (.ref 1001), some (.int s), some (.int x), some (.int y)]) (st' := [.int y, .ref 1001]) (h1 := am_h w g) rfl ?_
  exact am_R.cvp (a := 1001) (as' := [.int y]) (r := []) rfl rfl rfl rfl (am_wf 1 (by decide) h1) rfl rfl (aw_k68b (d + 1) _ _ hy) rfl
theorem aw_k132a {w : Nat → am_C} {g : am_H} (d : Nat) {ft ty wr wd wt sn : Int32} (h21 : w 21 = aw_c21 ft ty wr wd wt sn) {ma : List Int32} (h27 : w 27 = am_I 0 ma) (l27 : ma.length = 3) {pi : List Int32} (h28 : w 28 = am_I 0 pi) (l28 : pi.length = 1728) {k : Nat} (hk : k < 3) {x y : Nat} (hx : x < 24) (hy : y < 24) (hm : ¬ ma.getD k 0 = 0) : am_R (d + 1) 132 0 [some (.ref 1021), some (.int (Int32.ofNat k)), some (.int (Int32.ofNat x)), some (.int (Int32.ofNat y))] [] (am_h w g) (.inl (some (.int (pi.getD (576 * k + 24 * y + x) 0)))) (am_h (am_pu w 21 (aw_c21 0 ty wr wd wt sn)) g) := by
  refine am_R.ites 5 (P := Int32.ofNat x < 0) (T := 27) (F := 7) (lv' := [some (.ref 1021), some (.int (Int32.ofNat k)), some (.int (Int32.ofNat x)), some (.int (Int32.ofNat y))]) (st' := [.int (Int32.ofNat k), .ref 1021, .ref 1021]) (h1 := am_h w g) rfl (fun b4 => ?_) (fun b4 => ?_)
  · exact absurd b4 (aw_nn x)
  · refine am_R.ites 3 (P := 24 ≤ Int32.ofNat x) (T := 27) (F := 13) (lv' := [some (.ref 1021), some (.int (Int32.ofNat k)), some (.int (Int32.ofNat x)), some (.int (Int32.ofNat y))]) (st' := [.int (Int32.ofNat k), .ref 1021, .ref 1021]) (h1 := am_h w g) rfl (fun b10 => ?_) (fun b10 => ?_)
    · have b10 : 24 ≤ x := (am_leN (i := 24) (n := x) (by omega) (by omega)).mp b10
      omega
    · have b10 : ¬ 24 ≤ x := fun hq9 => b10 ((am_leN (i := 24) (n := x) (by omega) (by omega)).mpr hq9)
      refine am_R.ites 2 (P := Int32.ofNat y < 0) (T := 27) (F := 17) (lv' := [some (.ref 1021), some (.int (Int32.ofNat k)), some (.int (Int32.ofNat x)), some (.int (Int32.ofNat y))]) (st' := [.int (Int32.ofNat k), .ref 1021, .ref 1021]) (h1 := am_h w g) rfl (fun b14 => ?_) (fun b14 => ?_)
      · exact absurd b14 (aw_nn y)
      · refine am_R.ites 3 (P := 24 ≤ Int32.ofNat y) (T := 27) (F := 23) (lv' := [some (.ref 1021), some (.int (Int32.ofNat k)), some (.int (Int32.ofNat x)), some (.int (Int32.ofNat y))]) (st' := [.int (Int32.ofNat k), .ref 1021, .ref 1021]) (h1 := am_h w g) rfl (fun b20 => ?_) (fun b20 => ?_)
        · have b20 : 24 ≤ y := (am_leN (i := 24) (n := y) (by omega) (by omega)).mp b20
          omega
        · have b20 : ¬ 24 ≤ y := fun hq9 => b20 ((am_leN (i := 24) (n := y) (by omega) (by omega)).mpr hq9)
          refine am_R.nxs 2 (pc' := 28) (lv' := [some (.ref 1021), some (.int (Int32.ofNat k)), some (.int (Int32.ofNat x)), some (.int (Int32.ofNat y))]) (st' := [.int 1, .int (Int32.ofNat k), .ref 1021, .ref 1021]) (h1 := am_h w g) rfl ?_
          refine am_R.cv (a := 1021) (as' := [.int (Int32.ofNat k), .int 1]) (r := [.ref 1021]) (v := some (.int 0)) (h1 := am_h w g) (pc' := 31) rfl rfl rfl rfl (am_wf 21 (by decide) h21) rfl rfl (aw_k133a d h21 h27 l27 hk hm) rfl ?_
          refine am_R.cv (a := 1021) (as' := [.int 0]) (r := []) (v := some (.int 0)) (h1 := am_h (am_pu w 21 (aw_c21 0 ty wr wd wt sn)) g) (pc' := 34) rfl rfl rfl rfl (am_wf 21 (by decide) h21) rfl rfl (aw_k99a (w := w) d h21 0 (by decide)) rfl ?_
          refine am_R.ites 1 (P := 0 = 0) (T := 39) (F := 37) (lv' := [some (.ref 1021), some (.int (Int32.ofNat k)), some (.int (Int32.ofNat x)), some (.int (Int32.ofNat y))]) (st' := []) (h1 := am_h (am_pu w 21 (aw_c21 0 ty wr wd wt sn)) g) rfl (fun b34 => ?_) (fun b34 => ?_)
          · refine am_R.nxs 1 (pc' := 40) (lv' := [some (.ref 1021), some (.int (Int32.ofNat k)), some (.int (Int32.ofNat x)), some (.int (Int32.ofNat y))]) (st' := [.ref 1021]) (h1 := am_h (am_pu w 21 (aw_c21 0 ty wr wd wt sn)) g) rfl ?_
            refine am_R.gf (pc' := 43) (v := .ref 1028) rfl (am_wf 21 (by decide) (rfl : (am_pu w 21 (aw_c21 0 ty wr wd wt sn)) 21 = _)) rfl rfl rfl ?_
            refine am_R.nxs 3 (pc' := 48) (lv' := [some (.ref 1021), some (.int (Int32.ofNat k)), some (.int (Int32.ofNat x)), some (.int (Int32.ofNat y))]) (st' := [.int (576 * Int32.ofNat k), .ref 1028]) (h1 := am_h (am_pu w 21 (aw_c21 0 ty wr wd wt sn)) g) rfl ?_
            rw [show (576 * Int32.ofNat k : Int32) = Int32.ofNat (576 * k) from am_mul 576 k]
            refine am_R.nxs 3 (pc' := 52) (lv' := [some (.ref 1021), some (.int (Int32.ofNat k)), some (.int (Int32.ofNat x)), some (.int (Int32.ofNat y))]) (st' := [.int (24 * Int32.ofNat y), .int (Int32.ofNat (576 * k)), .ref 1028]) (h1 := am_h (am_pu w 21 (aw_c21 0 ty wr wd wt sn)) g) rfl ?_
            rw [show (24 * Int32.ofNat y : Int32) = Int32.ofNat (24 * y) from am_mul 24 y]
            refine am_R.nxs 1 (pc' := 53) (lv' := [some (.ref 1021), some (.int (Int32.ofNat k)), some (.int (Int32.ofNat x)), some (.int (Int32.ofNat y))]) (st' := [.int (Int32.ofNat (576 * k) + Int32.ofNat (24 * y)), .ref 1028]) (h1 := am_h (am_pu w 21 (aw_c21 0 ty wr wd wt sn)) g) rfl ?_
            rw [show (Int32.ofNat (576 * k) + Int32.ofNat (24 * y) : Int32) = Int32.ofNat ((576 * k) + (24 * y)) from am_add (576 * k) (24 * y)]
            refine am_R.nxs 2 (pc' := 55) (lv' := [some (.ref 1021), some (.int (Int32.ofNat k)), some (.int (Int32.ofNat x)), some (.int (Int32.ofNat y))]) (st' := [.int (Int32.ofNat ((576 * k) + (24 * y)) + Int32.ofNat x), .ref 1028]) (h1 := am_h (am_pu w 21 (aw_c21 0 ty wr wd wt sn)) g) rfl ?_
            rw [show (Int32.ofNat ((576 * k) + (24 * y)) + Int32.ofNat x : Int32) = Int32.ofNat (((576 * k) + (24 * y)) + x) from am_add ((576 * k) + (24 * y)) x]
            refine am_R.ldi (i := (((576 * k) + (24 * y)) + x)) (xs := pi) (pc' := 56) rfl (am_wf 28 (by decide) h28) (by omega) (by omega) rfl ?_
            exact am_R.reti rfl rfl rfl
          · exact absurd rfl b34
theorem aw_k132b {w : Nat → am_C} {g : am_H} (d : Nat) {ft ty wr wd wt sn : Int32} (h21 : w 21 = aw_c21 ft ty wr wd wt sn) {ma : List Int32} (h27 : w 27 = am_I 0 ma) (l27 : ma.length = 3) {k : Nat} (hk : k < 3) {x y : Int32} (hx : ¬ x < 0 ∧ x < 24) (hy : ¬ y < 0 ∧ y < 24) (hm : ma.getD k 0 = 0) : am_R (d + 1) 132 0 [some (.ref 1021), some (.int (Int32.ofNat k)), some (.int x), some (.int y)] [] (am_h w g) (.inl (some (.int 0))) (am_h (am_pu w 21 (aw_c21 2 ty wr wd wt sn)) g) := by
  refine am_R.ites 5 (P := x < 0) (T := 27) (F := 7) (lv' := [some (.ref 1021), some (.int (Int32.ofNat k)), some (.int x), some (.int y)]) (st' := [.int (Int32.ofNat k), .ref 1021, .ref 1021]) (h1 := am_h w g) rfl (fun b4 => ?_) (fun b4 => ?_)
  · exact absurd b4 hx.1
  · refine am_R.ites 3 (P := 24 ≤ x) (T := 27) (F := 13) (lv' := [some (.ref 1021), some (.int (Int32.ofNat k)), some (.int x), some (.int y)]) (st' := [.int (Int32.ofNat k), .ref 1021, .ref 1021]) (h1 := am_h w g) rfl (fun b10 => ?_) (fun b10 => ?_)
    · exact absurd hx.2 (Int32.not_lt.mpr b10)
    · refine am_R.ites 2 (P := y < 0) (T := 27) (F := 17) (lv' := [some (.ref 1021), some (.int (Int32.ofNat k)), some (.int x), some (.int y)]) (st' := [.int (Int32.ofNat k), .ref 1021, .ref 1021]) (h1 := am_h w g) rfl (fun b14 => ?_) (fun b14 => ?_)
      · exact absurd b14 hy.1
      · refine am_R.ites 3 (P := 24 ≤ y) (T := 27) (F := 23) (lv' := [some (.ref 1021), some (.int (Int32.ofNat k)), some (.int x), some (.int y)]) (st' := [.int (Int32.ofNat k), .ref 1021, .ref 1021]) (h1 := am_h w g) rfl (fun b20 => ?_) (fun b20 => ?_)
        · exact absurd hy.2 (Int32.not_lt.mpr b20)
        · refine am_R.nxs 2 (pc' := 28) (lv' := [some (.ref 1021), some (.int (Int32.ofNat k)), some (.int x), some (.int y)]) (st' := [.int 1, .int (Int32.ofNat k), .ref 1021, .ref 1021]) (h1 := am_h w g) rfl ?_
          refine am_R.cv (a := 1021) (as' := [.int (Int32.ofNat k), .int 1]) (r := [.ref 1021]) (v := some (.int 2)) (h1 := am_h w g) (pc' := 31) rfl rfl rfl rfl (am_wf 21 (by decide) h21) rfl rfl (aw_k133b d h21 h27 l27 hk hm) rfl ?_
          refine am_R.cv (a := 1021) (as' := [.int 2]) (r := []) (v := some (.int 1)) (h1 := am_h (am_pu w 21 (aw_c21 2 ty wr wd wt sn)) g) (pc' := 34) rfl rfl rfl rfl (am_wf 21 (by decide) h21) rfl rfl (aw_k99b (w := w) d h21 2 (by decide)) rfl ?_
          refine am_R.ites 1 (P := 1 = 0) (T := 39) (F := 37) (lv' := [some (.ref 1021), some (.int (Int32.ofNat k)), some (.int x), some (.int y)]) (st' := []) (h1 := am_h (am_pu w 21 (aw_c21 2 ty wr wd wt sn)) g) rfl (fun b34 => ?_) (fun b34 => ?_)
          · exact absurd b34 (by decide)
          · refine am_R.nxs 1 (pc' := 38) (lv' := [some (.ref 1021), some (.int (Int32.ofNat k)), some (.int x), some (.int y)]) (st' := [.int 0]) (h1 := am_h (am_pu w 21 (aw_c21 2 ty wr wd wt sn)) g) rfl ?_
            exact am_R.reti rfl rfl rfl
theorem aw_k132c {w : Nat → am_C} {g : am_H} (d : Nat) {ft ty wr wd wt sn : Int32} (h21 : w 21 = aw_c21 ft ty wr wd wt sn) {x y : Int32} (hx : ¬ x < 0 ∧ x < 24) (hy : ¬ y < 0 ∧ y < 24) {s : Int32} (hs : s < 0 ∨ 2 < s) : am_R (d + 1) 132 0 [some (.ref 1021), some (.int s), some (.int x), some (.int y)] [] (am_h w g) (.inl (some (.int 0))) (am_h (am_pu w 21 (aw_c21 1 ty wr wd wt sn)) g) := by
  refine am_R.ites 5 (P := x < 0) (T := 27) (F := 7) (lv' := [some (.ref 1021), some (.int s), some (.int x), some (.int y)]) (st' := [.int s, .ref 1021, .ref 1021]) (h1 := am_h w g) rfl (fun b4 => ?_) (fun b4 => ?_)
  · exact absurd b4 hx.1
  · refine am_R.ites 3 (P := 24 ≤ x) (T := 27) (F := 13) (lv' := [some (.ref 1021), some (.int s), some (.int x), some (.int y)]) (st' := [.int s, .ref 1021, .ref 1021]) (h1 := am_h w g) rfl (fun b10 => ?_) (fun b10 => ?_)
    · exact absurd hx.2 (Int32.not_lt.mpr b10)
    · refine am_R.ites 2 (P := y < 0) (T := 27) (F := 17) (lv' := [some (.ref 1021), some (.int s), some (.int x), some (.int y)]) (st' := [.int s, .ref 1021, .ref 1021]) (h1 := am_h w g) rfl (fun b14 => ?_) (fun b14 => ?_)
      · exact absurd b14 hy.1
      · refine am_R.ites 3 (P := 24 ≤ y) (T := 27) (F := 23) (lv' := [some (.ref 1021), some (.int s), some (.int x), some (.int y)]) (st' := [.int s, .ref 1021, .ref 1021]) (h1 := am_h w g) rfl (fun b20 => ?_) (fun b20 => ?_)
        · exact absurd hy.2 (Int32.not_lt.mpr b20)
        · refine am_R.nxs 2 (pc' := 28) (lv' := [some (.ref 1021), some (.int s), some (.int x), some (.int y)]) (st' := [.int 1, .int s, .ref 1021, .ref 1021]) (h1 := am_h w g) rfl ?_
          refine am_R.cv (a := 1021) (as' := [.int s, .int 1]) (r := [.ref 1021]) (v := some (.int 1)) (h1 := am_h w g) (pc' := 31) rfl rfl rfl rfl (am_wf 21 (by decide) h21) rfl rfl (aw_k133c d h21 s 1 (hs.elim Or.inl (fun q => Or.inr (Or.inl q)))) rfl ?_
          refine am_R.cv (a := 1021) (as' := [.int 1]) (r := []) (v := some (.int 1)) (h1 := am_h (am_pu w 21 (aw_c21 1 ty wr wd wt sn)) g) (pc' := 34) rfl rfl rfl rfl (am_wf 21 (by decide) h21) rfl rfl (aw_k99b (w := w) d h21 1 (by decide)) rfl ?_
          refine am_R.ites 1 (P := 1 = 0) (T := 39) (F := 37) (lv' := [some (.ref 1021), some (.int s), some (.int x), some (.int y)]) (st' := []) (h1 := am_h (am_pu w 21 (aw_c21 1 ty wr wd wt sn)) g) rfl (fun b34 => ?_) (fun b34 => ?_)
          · exact absurd b34 (by decide)
          · refine am_R.nxs 1 (pc' := 38) (lv' := [some (.ref 1021), some (.int s), some (.int x), some (.int y)]) (st' := [.int 0]) (h1 := am_h (am_pu w 21 (aw_c21 1 ty wr wd wt sn)) g) rfl ?_
            exact am_R.reti rfl rfl rfl
theorem aw_k132e {w : Nat → am_C} {g : am_H} (d : Nat) {ft ty wr wd wt sn : Int32} (h21 : w 21 = aw_c21 ft ty wr wd wt sn) {s x y : Int32} (hn : (x < 0 ∨ ¬ x < 24) ∨ (y < 0 ∨ ¬ y < 24)) : am_R (d + 1) 132 0 [some (.ref 1021), some (.int s), some (.int x), some (.int y)] [] (am_h w g) (.inl (some (.int 0))) (am_h (am_pu w 21 (aw_c21 1 ty wr wd wt sn)) g) := by
  refine am_R.ites 5 (P := x < 0) (T := 27) (F := 7) (lv' := [some (.ref 1021), some (.int s), some (.int x), some (.int y)]) (st' := [.int s, .ref 1021, .ref 1021]) (h1 := am_h w g) rfl (fun b4 => ?_) (fun b4 => ?_)
  · refine am_R.nxs 1 (pc' := 28) (lv' := [some (.ref 1021), some (.int s), some (.int x), some (.int y)]) (st' := [.int 0, .int s, .ref 1021, .ref 1021]) (h1 := am_h w g) rfl ?_
    refine am_R.cv (a := 1021) (as' := [.int s, .int 0]) (r := [.ref 1021]) (v := some (.int 1)) (h1 := am_h w g) (pc' := 31) rfl rfl rfl rfl (am_wf 21 (by decide) h21) rfl rfl (aw_k133c d h21 s 0 (Or.inr (Or.inr rfl))) rfl ?_
    refine am_R.cv (a := 1021) (as' := [.int 1]) (r := []) (v := some (.int 1)) (h1 := am_h (am_pu w 21 (aw_c21 1 ty wr wd wt sn)) g) (pc' := 34) rfl rfl rfl rfl (am_wf 21 (by decide) h21) rfl rfl (aw_k99b (w := w) d h21 1 (by decide)) rfl ?_
    refine am_R.ites 1 (P := 1 = 0) (T := 39) (F := 37) (lv' := [some (.ref 1021), some (.int s), some (.int x), some (.int y)]) (st' := []) (h1 := am_h (am_pu w 21 (aw_c21 1 ty wr wd wt sn)) g) rfl (fun b34 => ?_) (fun b34 => ?_)
    · exact absurd b34 (by decide)
    · refine am_R.nxs 1 (pc' := 38) (lv' := [some (.ref 1021), some (.int s), some (.int x), some (.int y)]) (st' := [.int 0]) (h1 := am_h (am_pu w 21 (aw_c21 1 ty wr wd wt sn)) g) rfl ?_
      exact am_R.reti rfl rfl rfl
  · refine am_R.ites 3 (P := 24 ≤ x) (T := 27) (F := 13) (lv' := [some (.ref 1021), some (.int s), some (.int x), some (.int y)]) (st' := [.int s, .ref 1021, .ref 1021]) (h1 := am_h w g) rfl (fun b10 => ?_) (fun b10 => ?_)
    · refine am_R.nxs 1 (pc' := 28) (lv' := [some (.ref 1021), some (.int s), some (.int x), some (.int y)]) (st' := [.int 0, .int s, .ref 1021, .ref 1021]) (h1 := am_h w g) rfl ?_
      refine am_R.cv (a := 1021) (as' := [.int s, .int 0]) (r := [.ref 1021]) (v := some (.int 1)) (h1 := am_h w g) (pc' := 31) rfl rfl rfl rfl (am_wf 21 (by decide) h21) rfl rfl (aw_k133c d h21 s 0 (Or.inr (Or.inr rfl))) rfl ?_
      refine am_R.cv (a := 1021) (as' := [.int 1]) (r := []) (v := some (.int 1)) (h1 := am_h (am_pu w 21 (aw_c21 1 ty wr wd wt sn)) g) (pc' := 34) rfl rfl rfl rfl (am_wf 21 (by decide) h21) rfl rfl (aw_k99b (w := w) d h21 1 (by decide)) rfl ?_
      refine am_R.ites 1 (P := 1 = 0) (T := 39) (F := 37) (lv' := [some (.ref 1021), some (.int s), some (.int x), some (.int y)]) (st' := []) (h1 := am_h (am_pu w 21 (aw_c21 1 ty wr wd wt sn)) g) rfl (fun b34 => ?_) (fun b34 => ?_)
      · exact absurd b34 (by decide)
      · refine am_R.nxs 1 (pc' := 38) (lv' := [some (.ref 1021), some (.int s), some (.int x), some (.int y)]) (st' := [.int 0]) (h1 := am_h (am_pu w 21 (aw_c21 1 ty wr wd wt sn)) g) rfl ?_
        exact am_R.reti rfl rfl rfl
    · refine am_R.ites 2 (P := y < 0) (T := 27) (F := 17) (lv' := [some (.ref 1021), some (.int s), some (.int x), some (.int y)]) (st' := [.int s, .ref 1021, .ref 1021]) (h1 := am_h w g) rfl (fun b14 => ?_) (fun b14 => ?_)
      · refine am_R.nxs 1 (pc' := 28) (lv' := [some (.ref 1021), some (.int s), some (.int x), some (.int y)]) (st' := [.int 0, .int s, .ref 1021, .ref 1021]) (h1 := am_h w g) rfl ?_
        refine am_R.cv (a := 1021) (as' := [.int s, .int 0]) (r := [.ref 1021]) (v := some (.int 1)) (h1 := am_h w g) (pc' := 31) rfl rfl rfl rfl (am_wf 21 (by decide) h21) rfl rfl (aw_k133c d h21 s 0 (Or.inr (Or.inr rfl))) rfl ?_
        refine am_R.cv (a := 1021) (as' := [.int 1]) (r := []) (v := some (.int 1)) (h1 := am_h (am_pu w 21 (aw_c21 1 ty wr wd wt sn)) g) (pc' := 34) rfl rfl rfl rfl (am_wf 21 (by decide) h21) rfl rfl (aw_k99b (w := w) d h21 1 (by decide)) rfl ?_
        refine am_R.ites 1 (P := 1 = 0) (T := 39) (F := 37) (lv' := [some (.ref 1021), some (.int s), some (.int x), some (.int y)]) (st' := []) (h1 := am_h (am_pu w 21 (aw_c21 1 ty wr wd wt sn)) g) rfl (fun b34 => ?_) (fun b34 => ?_)
        · exact absurd b34 (by decide)
        · refine am_R.nxs 1 (pc' := 38) (lv' := [some (.ref 1021), some (.int s), some (.int x), some (.int y)]) (st' := [.int 0]) (h1 := am_h (am_pu w 21 (aw_c21 1 ty wr wd wt sn)) g) rfl ?_
          exact am_R.reti rfl rfl rfl
      · refine am_R.ites 3 (P := 24 ≤ y) (T := 27) (F := 23) (lv' := [some (.ref 1021), some (.int s), some (.int x), some (.int y)]) (st' := [.int s, .ref 1021, .ref 1021]) (h1 := am_h w g) rfl (fun b20 => ?_) (fun b20 => ?_)
        · refine am_R.nxs 1 (pc' := 28) (lv' := [some (.ref 1021), some (.int s), some (.int x), some (.int y)]) (st' := [.int 0, .int s, .ref 1021, .ref 1021]) (h1 := am_h w g) rfl ?_
          refine am_R.cv (a := 1021) (as' := [.int s, .int 0]) (r := [.ref 1021]) (v := some (.int 1)) (h1 := am_h w g) (pc' := 31) rfl rfl rfl rfl (am_wf 21 (by decide) h21) rfl rfl (aw_k133c d h21 s 0 (Or.inr (Or.inr rfl))) rfl ?_
          refine am_R.cv (a := 1021) (as' := [.int 1]) (r := []) (v := some (.int 1)) (h1 := am_h (am_pu w 21 (aw_c21 1 ty wr wd wt sn)) g) (pc' := 34) rfl rfl rfl rfl (am_wf 21 (by decide) h21) rfl rfl (aw_k99b (w := w) d h21 1 (by decide)) rfl ?_
          refine am_R.ites 1 (P := 1 = 0) (T := 39) (F := 37) (lv' := [some (.ref 1021), some (.int s), some (.int x), some (.int y)]) (st' := []) (h1 := am_h (am_pu w 21 (aw_c21 1 ty wr wd wt sn)) g) rfl (fun b34 => ?_) (fun b34 => ?_)
          · exact absurd b34 (by decide)
          · refine am_R.nxs 1 (pc' := 38) (lv' := [some (.ref 1021), some (.int s), some (.int x), some (.int y)]) (st' := [.int 0]) (h1 := am_h (am_pu w 21 (aw_c21 1 ty wr wd wt sn)) g) rfl ?_
            exact am_R.reti rfl rfl rfl
        · exact absurd hn (fun q => q.elim (fun q => q.elim b4 (fun q => q (Int32.not_le.mp b10))) (fun q => q.elim b14 (fun q => q (Int32.not_le.mp b20))))
theorem aw_pl24 {v : Int32} (h : ¬ v < 0 ∧ v < 24) : ∃ n, n < 24 ∧ v = Int32.ofNat n := by
  obtain ⟨n, hn, e⟩ := aw_nat h.1
  refine ⟨n, ?_, e⟩
  have := h.2
  rw [e] at this
  exact (am_ltN (i := n) (n := 24) hn (by decide)).mp this
theorem aw_bad24 {v : Int32} (h : ¬ (v < 0 ∨ ¬ v < 24)) : ¬ v < 0 ∧ v < 24 := ⟨fun q => h (Or.inl q), Decidable.not_not.mp (fun q => h (Or.inr q))⟩
set_option maxRecDepth 100000 in
theorem aw_o3 : aw_Op 208 := by
  intro d i w g x5 x6 xs hI h0 hi hx
  obtain ⟨tl, pl, sp, ft, wd, wt, sn, h1, h21, hT, hP, hS, hC, u, hO⟩ := hI
  by_cases hx1 : xs.getD (i + 2) 0 < 0 ∨ ¬ xs.getD (i + 2) 0 < 24
  · refine ⟨am_pu w 21 (aw_c21 1 (Int32.ofNat tl) (Int32.ofNat pl) wd wt sn), g ++ [.inl (8, [])], some (.int 1), some (.int 0), ⟨tl, pl, sp, 1, wd, wt, sn, h1, rfl, hT, hP, aw_Shs_up (by omega) hS, hC, u, hO⟩, h0, by simp, aw_sz1 rfl, fun o h' K => ?_⟩
    exact aw_L3 d i x5 x6 h0 hi hx (aw_W66t8 (d + 38) h1 _ _ _ (aw_k67e (d + 36) h1 hx1)) h0 h21 (aw_k132e (d + 38) h21 (Or.inl hx1)) rfl (fun q => absurd q (by decide)) K
  by_cases hy1 : xs.getD (i + 3) 0 < 0 ∨ ¬ xs.getD (i + 3) 0 < 24
  · refine ⟨am_pu w 21 (aw_c21 1 (Int32.ofNat tl) (Int32.ofNat pl) wd wt sn), g ++ [.inl (8, [])], some (.int 1), some (.int 0), ⟨tl, pl, sp, 1, wd, wt, sn, h1, rfl, hT, hP, aw_Shs_up (by omega) hS, hC, u, hO⟩, h0, by simp, aw_sz1 rfl, fun o h' K => ?_⟩
    exact aw_L3 d i x5 x6 h0 hi hx (aw_W66t8 (d + 38) h1 _ _ _ (aw_k67f (d + 36) h1 (aw_bad24 hx1) hy1)) h0 h21 (aw_k132e (d + 38) h21 (Or.inr hy1)) rfl (fun q => absurd q (by decide)) K
  by_cases hs : xs.getD (i + 1) 0 < 0 ∨ ¬ xs.getD (i + 1) 0 < 3
  · refine ⟨am_pu w 21 (aw_c21 1 (Int32.ofNat tl) (Int32.ofNat pl) wd wt sn), g ++ [.inl (8, [])], some (.int 1), some (.int 0), ⟨tl, pl, sp, 1, wd, wt, sn, h1, rfl, hT, hP, aw_Shs_up (by omega) hS, hC, u, hO⟩, h0, by simp, aw_sz1 rfl, fun o h' K => ?_⟩
    exact aw_L3 d i x5 x6 h0 hi hx (aw_W66t8 (d + 38) h1 _ _ _ (aw_k67c (d + 36) h1 (aw_bad24 hx1) (aw_bad24 hy1) hs)) h0 h21 (aw_k132c (d + 38) h21 (aw_bad24 hx1) (aw_bad24 hy1) (aw_gt2 hs)) rfl (fun q => absurd q (by decide)) K
  · obtain ⟨k, hk, hke⟩ := aw_sh3 hs
    obtain ⟨rs, r, to, ma, pi, br, bk, co, h4, hl, hr, hrs, ⟨m1, m2, m3, m4, m5, m6, m7, m8, m9, m10, m11, m12⟩, wc, bc, sc, ic, cc, dp, rd, ws, pc, bw, ⟨t1, t2, t3, t4, t5, t6, t7⟩, hsh⟩ := aw_get hS hk
    rcases hsh with ⟨hd, hm⟩ | ⟨hd, js, b, j1, j2, j3, j4, j5, j6, b1, b2, b3, b4, q1, q2, q3, q4, q5⟩
    · refine ⟨am_pu w 21 (aw_c21 2 (Int32.ofNat tl) (Int32.ofNat pl) wd wt sn), g ++ [.inl (9, [])], some (.int 2), some (.int 0), ⟨tl, pl, sp, 2, wd, wt, sn, h1, rfl, hT, hP, aw_Shs_up (by omega) hS, hC, u, hO⟩, h0, by simp, aw_sz1 rfl, fun o h' K => ?_⟩
      exact aw_L3 d i x5 x6 h0 hi hx (aw_W66t9 (d + 38) h1 _ _ _ (by rw [hke]; exact aw_k67b (d + 36) h1 h4 hl hk hr hrs t1 (aw_bad24 hx1) (aw_bad24 hy1) hd)) h0 h21 (by rw [hke]; exact aw_k132b (d + 38) h21 m2 m8 hk (aw_bad24 hx1) (aw_bad24 hy1) hm) rfl (fun q => absurd q (by decide)) K
    · obtain ⟨x, hxl, hxe⟩ := aw_pl24 (aw_bad24 hx1)
      obtain ⟨y, hyl, hye⟩ := aw_pl24 (aw_bad24 hy1)
      have e6 : pc.getD (y * 24 + x) 0 = pi.getD (576 * k + 24 * y + x) 0 := by
        rw [j6 _ (by omega), show 576 * k + (y * 24 + x) = 576 * k + 24 * y + x by omega]
      refine ⟨am_pu (am_pu w 44 (.inr (3, [.long (pc.getD (y * 24 + x) 0).toInt64]))) 21 (aw_c21 0 (Int32.ofNat tl) (Int32.ofNat pl) wd wt sn), g, some (.int 0), some (.int (pc.getD (y * 24 + x) 0)), ⟨tl, pl, sp, 0, wd, wt, sn, h1, rfl, hT, hP, aw_Shs_up (by omega) (aw_Shs_up (by omega) hS), hC, _, rfl⟩, h0, by omega, by omega, fun o h' K => ?_⟩
      exact aw_L3 d i x5 x6 h0 hi hx (aw_W66a (d + 38) h1 _ _ _ (by rw [hke, hxe, hye]; exact aw_k67a (d + 36) h1 h4 hl hk hr hrs t1 t3 t6 hxl hyl hd) hO) h0 h21 (by rw [hke, hxe, hye, e6]; exact aw_k132a (w := am_pu w 44 _) (d + 38) h21 m2 m8 m3 m9 hk hxl hyl (by rw [j4]; exact aw_nz j1 j2)) rfl (fun _ => rfl) K
end
section
/-! cells, row, differ: loops of both sides, and their calls in the law. -/
/-- how many of the first n -/
def aw_cnt (f : Nat → Bool) : Nat → Int32
  | 0 => 0
  | n + 1 => if f n = true then aw_cnt f n + 1 else aw_cnt f n
/-- the bits of the first n, added -/
def aw_bitA (f : Nat → Bool) : Nat → Int32
  | 0 => 0
  | n + 1 => if f n = true then aw_bitA f n + (1 <<< (Int32.ofNat n &&& 31)) else aw_bitA f n
/-- the bits of the first n, joined -/
def aw_bitO (f : Nat → Bool) : Nat → Int32
  | 0 => 0
  | n + 1 => if f n = true then aw_bitO f n ||| (1 <<< (Int32.ofNat n &&& 31)) else aw_bitO f n
theorem aw_cnt_cong {f g : Nat → Bool} {n : Nat} (h : ∀ k, k < n → f k = g k) : aw_cnt f n = aw_cnt g n := by
  induction n with
  | zero => rfl
  | succ n ih => rw [aw_cnt, aw_cnt, ih (fun k hk => h k (by omega)), h n (by omega)]
theorem aw_bitO_cong {f g : Nat → Bool} {n : Nat} (h : ∀ k, k < n → f k = g k) : aw_bitO f n = aw_bitO g n := by
  induction n with
  | zero => rfl
  | succ n ih => rw [aw_bitO, aw_bitO, ih (fun k hk => h k (by omega)), h n (by omega)]
theorem aw_bit1 {n : Nat} (hn : n < 31) : ((1 : Int32) <<< (Int32.ofNat n &&& 31)).toBitVec = BitVec.twoPow 32 n := by
  have key : ∀ n, n < 31 → ((1 : Int32) <<< (Int32.ofNat n &&& 31)).toBitVec = BitVec.twoPow 32 n := by decide
  exact key n hn
theorem aw_bitO_lt (f : Nat → Bool) : ∀ n, n ≤ 31 → (aw_bitO f n).toBitVec.toNat < 2 ^ n := by
  intro n
  induction n with
  | zero => intro _; show (0 : Int32).toBitVec.toNat < 2 ^ 0; decide
  | succ n ih =>
    intro hn
    have h1 := ih (by omega)
    have hp : (2 : Nat) ^ (n + 1) = 2 ^ n + 2 ^ n := by rw [Nat.pow_succ]; omega
    rw [aw_bitO]
    split
    · show ((aw_bitO f n).toBitVec ||| ((1 : Int32) <<< (Int32.ofNat n &&& 31)).toBitVec).toNat < _
      rw [aw_bit1 (by omega), BitVec.toNat_or]
      refine Nat.or_lt_two_pow (by omega) ?_
      rw [BitVec.toNat_twoPow]
      exact Nat.lt_of_le_of_lt (Nat.mod_le _ _) (Nat.pow_lt_pow_right (by decide) (by omega))
    · omega
theorem aw_bit_eq (f : Nat → Bool) : ∀ n, n ≤ 31 → aw_bitA f n = aw_bitO f n := by
  intro n
  induction n with
  | zero => intro _; rfl
  | succ n ih =>
    intro hn
    rw [aw_bitA, aw_bitO, ih (by omega)]
    split
    · apply Int32.toBitVec_inj.mp
      show (aw_bitO f n).toBitVec + ((1 : Int32) <<< (Int32.ofNat n &&& 31)).toBitVec = (aw_bitO f n).toBitVec ||| ((1 : Int32) <<< (Int32.ofNat n &&& 31)).toBitVec
      rw [aw_bit1 (by omega)]
      apply BitVec.add_eq_or_of_and_eq_zero
      apply BitVec.eq_of_getLsbD_eq
      intro j hj
      rw [BitVec.getLsbD_and, BitVec.getLsbD_twoPow]
      have h1 := aw_bitO_lt f n (by omega)
      by_cases hjn : n = j
      · subst hjn
        rw [BitVec.getLsbD, Nat.testBit_lt_two_pow h1]
        simp
      · simp [hjn]
    · rfl
theorem aw_k73l {w : Nat → am_C} {g : am_H} (d : Nat) {r : Nat} (hr : r < 4) {pc : List Int32} (hP : w (7 + 4 * r) = am_I 0 pc) (hpl : pc.length = 576) (t : Int32) (x1 : Option Value) : ∀ m i : Nat, i + m = pc.length → am_R d 73 15 [some (.ref 1001), x1, some (.int t), some (.ref (1007 + 4 * r)), some (.int (aw_cnt (fun j => decide (pc.getD j 0 = t)) i)), some (.int (Int32.ofNat i))] [] (am_h w g) (.inl (some (.int (aw_cnt (fun j => decide (pc.getD j 0 = t)) pc.length)))) (am_h w g) := by
  intro m
  induction m with
  | zero =>
    intro i hi
    have hi9 : i = pc.length := by omega
    subst hi9
    refine am_R.nxs 2 (pc' := 18) (lv' := [some (.ref 1001), x1, some (.int t), some (.ref (1007 + 4 * r)), some (.int (aw_cnt (fun j => decide (pc.getD j 0 = t)) pc.length)), some (.int (Int32.ofNat pc.length))]) (st' := [.ref (1007 + 4 * r), .int (Int32.ofNat pc.length)]) (h1 := am_h w g) rfl ?_
    refine am_R.ali (xs := pc) (pc' := 19) rfl (aw_at7 hr hP) rfl ?_
    refine am_R.ites 1 (P := Int32.ofNat pc.length ≤ Int32.ofNat pc.length) (T := 39) (F := 22) (lv' := [some (.ref 1001), x1, some (.int t), some (.ref (1007 + 4 * r)), some (.int (aw_cnt (fun j => decide (pc.getD j 0 = t)) pc.length)), some (.int (Int32.ofNat pc.length))]) (st' := []) (h1 := am_h w g) rfl (fun b19 => ?_) (fun b19 => ?_)
    · have b19 : pc.length ≤ pc.length := (am_leN (i := pc.length) (n := pc.length) (by omega) (by omega)).mp b19
      refine am_R.nxs 1 (pc' := 41) (lv' := [some (.ref 1001), x1, some (.int t), some (.ref (1007 + 4 * r)), some (.int (aw_cnt (fun j => decide (pc.getD j 0 = t)) pc.length)), some (.int (Int32.ofNat pc.length))]) (st' := [.int (aw_cnt (fun j => decide (pc.getD j 0 = t)) pc.length)]) (h1 := am_h w g) rfl ?_
      exact am_R.reti rfl rfl rfl
    · have b19 : ¬ pc.length ≤ pc.length := fun hq9 => b19 ((am_leN (i := pc.length) (n := pc.length) (by omega) (by omega)).mpr hq9)
      omega
  | succ m ih =>
    intro i hi
    refine am_R.nxs 2 (pc' := 18) (lv' := [some (.ref 1001), x1, some (.int t), some (.ref (1007 + 4 * r)), some (.int (aw_cnt (fun j => decide (pc.getD j 0 = t)) i)), some (.int (Int32.ofNat i))]) (st' := [.ref (1007 + 4 * r), .int (Int32.ofNat i)]) (h1 := am_h w g) rfl ?_
    refine am_R.ali (xs := pc) (pc' := 19) rfl (aw_at7 hr hP) rfl ?_
    refine am_R.ites 1 (P := Int32.ofNat pc.length ≤ Int32.ofNat i) (T := 39) (F := 22) (lv' := [some (.ref 1001), x1, some (.int t), some (.ref (1007 + 4 * r)), some (.int (aw_cnt (fun j => decide (pc.getD j 0 = t)) i)), some (.int (Int32.ofNat i))]) (st' := []) (h1 := am_h w g) rfl (fun b19 => ?_) (fun b19 => ?_)
    · have b19 : pc.length ≤ i := (am_leN (i := pc.length) (n := i) (by omega) (by omega)).mp b19
      omega
    · have b19 : ¬ pc.length ≤ i := fun hq9 => b19 ((am_leN (i := pc.length) (n := i) (by omega) (by omega)).mpr hq9)
      refine am_R.nxs 2 (pc' := 25) (lv' := [some (.ref 1001), x1, some (.int t), some (.ref (1007 + 4 * r)), some (.int (aw_cnt (fun j => decide (pc.getD j 0 = t)) i)), some (.int (Int32.ofNat i))]) (st' := [.int (Int32.ofNat i), .ref (1007 + 4 * r)]) (h1 := am_h w g) rfl ?_
      refine am_R.ldi (i := i) (xs := pc) (pc' := 26) rfl (aw_at7 hr hP) (by omega) (by omega) rfl ?_
      refine am_R.ites 2 (P := ¬ (pc.getD i 0) = t) (T := 33) (F := 30) (lv' := [some (.ref 1001), x1, some (.int t), some (.ref (1007 + 4 * r)), some (.int (aw_cnt (fun j => decide (pc.getD j 0 = t)) i)), some (.int (Int32.ofNat i))]) (st' := []) (h1 := am_h w g) rfl (fun b27 => ?_) (fun b27 => ?_)
      · refine am_R.nxs 1 (pc' := 36) (lv' := [some (.ref 1001), x1, some (.int t), some (.ref (1007 + 4 * r)), some (.int (aw_cnt (fun j => decide (pc.getD j 0 = t)) i)), some (.int (Int32.ofNat i + 1))]) (st' := []) (h1 := am_h w g) rfl ?_
        rw [show (Int32.ofNat i + 1 : Int32) = Int32.ofNat (i + 1) from am_add i 1]
        refine am_R.nxs 1 (pc' := 15) (lv' := [some (.ref 1001), x1, some (.int t), some (.ref (1007 + 4 * r)), some (.int (aw_cnt (fun j => decide (pc.getD j 0 = t)) i)), some (.int (Int32.ofNat (i + 1)))]) (st' := []) (h1 := am_h w g) rfl ?_
        have e9 : (aw_cnt (fun j => decide (pc.getD j 0 = t)) (i + 1)) = (aw_cnt (fun j => decide (pc.getD j 0 = t)) i) := if_neg (by rw [decide_eq_true_eq]; exact b27)
        rw [← e9]
        exact ih (i + 1) (by omega)
      · refine am_R.nxs 2 (pc' := 36) (lv' := [some (.ref 1001), x1, some (.int t), some (.ref (1007 + 4 * r)), some (.int ((aw_cnt (fun j => decide (pc.getD j 0 = t)) i) + 1)), some (.int (Int32.ofNat i + 1))]) (st' := []) (h1 := am_h w g) rfl ?_
        rw [show (Int32.ofNat i + 1 : Int32) = Int32.ofNat (i + 1) from am_add i 1]
        refine am_R.nxs 1 (pc' := 15) (lv' := [some (.ref 1001), x1, some (.int t), some (.ref (1007 + 4 * r)), some (.int ((aw_cnt (fun j => decide (pc.getD j 0 = t)) i) + 1)), some (.int (Int32.ofNat (i + 1)))]) (st' := []) (h1 := am_h w g) rfl ?_
        have e9 : (aw_cnt (fun j => decide (pc.getD j 0 = t)) (i + 1)) = (aw_cnt (fun j => decide (pc.getD j 0 = t)) i) + 1 := if_pos (decide_eq_true (Decidable.not_not.mp b27))
        rw [← e9]
        exact ih (i + 1) (by omega)
theorem aw_k73a {w : Nat → am_C} {g : am_H} (d : Nat) {tl pl sp : Nat} (h1 : w 1 = aw_c1 tl pl sp) {rs : List Value} (h4 : w 4 = .inr (5, rs)) (hl : rs.length = 3) {k r : Nat} (hk : k < 3) (hr : r < 4) (hrs : rs[k]? = some (.ref (1005 + 4 * r))) {wc bc sc ic cc dp rd : Int32} (hT : w (5 + 4 * r) = aw_cT r wc bc sc ic cc dp rd) {pc : List Int32} (hP : w (7 + 4 * r) = am_I 0 pc) (hpl : pc.length = 576) (hd : rd = 1) (t : Int32) : am_R (d + 2) 73 0 [some (.ref 1001), some (.int (Int32.ofNat k)), some (.int t), none, none, none] [] (am_h w g) (.inl (some (.int (aw_cnt (fun j => decide (pc.getD j 0 = t)) pc.length)))) (am_h w g) := by
  refine am_R.nxs 2 (pc' := 2) (lv' := [some (.ref 1001), some (.int (Int32.ofNat k)), some (.int t), none, none, none]) (st' := [.int (Int32.ofNat k), .ref 1001]) (h1 := am_h w g) rfl ?_
  refine am_R.cv (a := 1001) (as' := [.int (Int32.ofNat k)]) (r := []) (v := some (.ref (1005 + 4 * r))) (h1 := am_h w g) (pc' := 5) rfl rfl rfl rfl (am_wf 1 (by decide) h1) rfl rfl (aw_k69a d h1 h4 hl hk hr hrs hT hd) rfl ?_
  refine am_R.gf (pc' := 8) (v := .ref (1007 + 4 * r)) rfl (aw_at5 hr hT) rfl rfl rfl ?_
  refine am_R.nxs 5 (pc' := 15) (lv' := [some (.ref 1001), some (.int (Int32.ofNat k)), some (.int t), some (.ref (1007 + 4 * r)), some (.int 0), some (.int 0)]) (st' := []) (h1 := am_h w g) rfl ?_
  exact aw_k73l (d + 2) hr hP hpl t _ pc.length 0 (Nat.zero_add _)
theorem aw_k73b {w : Nat → am_C} {g : am_H} (d : Nat) {tl pl sp : Nat} (h1 : w 1 = aw_c1 tl pl sp) {rs : List Value} (h4 : w 4 = .inr (5, rs)) (hl : rs.length = 3) {k r : Nat} (hk : k < 3) (hr : r < 4) (hrs : rs[k]? = some (.ref (1005 + 4 * r))) {wc bc sc ic cc dp rd : Int32} (hT : w (5 + 4 * r) = aw_cT r wc bc sc ic cc dp rd) (hd : rd = 0) (t : Int32) : am_R (d + 2) 73 0 [some (.ref 1001), some (.int (Int32.ofNat k)), some (.int t), none, none, none] [] (am_h w g) (.inr (1000 + (am_h w g).length)) (am_h w (g ++ [.inl (9, [])])) := by
  refine am_R.nxs 2 (pc' := 2) (lv' := [some (.ref 1001), some (.int (Int32.ofNat k)), some (.int t), none, none, none]) (st' := [.int (Int32.ofNat k), .ref 1001]) (h1 := am_h w g) rfl ?_
  exact am_R.cvp (a := 1001) (as' := [.int (Int32.ofNat k)]) (r := []) rfl rfl rfl rfl (am_wf 1 (by decide) h1) rfl rfl (aw_k69b d h1 h4 hl hk hr hrs hT hd) rfl
theorem aw_k73c {w : Nat → am_C} {g : am_H} (d : Nat) {tl pl sp : Nat} (h1 : w 1 = aw_c1 tl pl sp) (s t : Int32) (hs : s < 0 ∨ ¬ s < 3) : am_R (d + 2) 73 0 [some (.ref 1001), some (.int s), some (.int t), none, none, none] [] (am_h w g) (.inr (1000 + (am_h w g).length)) (am_h w (g ++ [.inl (8, [])])) := by
  refine am_R.nxs 2 (pc' := 2) (lv' := [some (.ref 1001), some (.int s), some (.int t), none, none, none]) (st' := [.int s, .ref 1001]) (h1 := am_h w g) rfl ?_
  exact am_R.cvp (a := 1001) (as' := [.int s]) (r := []) rfl rfl rfl rfl (am_wf 1 (by decide) h1) rfl rfl (aw_k69c d h1 s hs) rfl
theorem aw_k135l {w : Nat → am_C} {g : am_H} (d : Nat) {ft ty wr wd wt sn : Int32} (h21 : w 21 = aw_c21 ft ty wr wd wt sn) {pi : List Int32} (h28 : w 28 = am_I 0 pi) (l28 : pi.length = 1728) {k : Nat} (hk : k < 3) (t : Int32) : ∀ m i : Nat, i + m = 576 → am_R d 135 20 [some (.ref 1021), some (.int (Int32.ofNat k)), some (.int t), some (.int (aw_cnt (fun j => decide (pi.getD (576 * k + j) 0 = t)) i)), some (.int (Int32.ofNat i))] [] (am_h w g) (.inl (some (.int (aw_cnt (fun j => decide (pi.getD (576 * k + j) 0 = t)) 576)))) (am_h w g) := by
  intro m
  induction m with
  | zero =>
    intro i hi
    have hi9 : i = 576 := by omega
    subst hi9
    refine am_R.ites 3 (P := 576 ≤ Int32.ofNat 576) (T := 59) (F := 28) (lv' := [some (.ref 1021), some (.int (Int32.ofNat k)), some (.int t), some (.int (aw_cnt (fun j => decide (pi.getD (576 * k + j) 0 = t)) 576)), some (.int (Int32.ofNat 576))]) (st' := []) (h1 := am_h w g) rfl (fun b25 => ?_) (fun b25 => ?_)
    · have b25 : 576 ≤ 576 := (am_leN (i := 576) (n := 576) (by omega) (by omega)).mp b25
      refine am_R.nxs 1 (pc' := 60) (lv' := [some (.ref 1021), some (.int (Int32.ofNat k)), some (.int t), some (.int (aw_cnt (fun j => decide (pi.getD (576 * k + j) 0 = t)) 576)), some (.int (Int32.ofNat 576))]) (st' := [.int (aw_cnt (fun j => decide (pi.getD (576 * k + j) 0 = t)) 576)]) (h1 := am_h w g) rfl ?_
      exact am_R.reti rfl rfl rfl
    · have b25 : ¬ 576 ≤ 576 := fun hq9 => b25 ((am_leN (i := 576) (n := 576) (by omega) (by omega)).mpr hq9)
      omega
  | succ m ih =>
    intro i hi
    refine am_R.ites 3 (P := 576 ≤ Int32.ofNat i) (T := 59) (F := 28) (lv' := [some (.ref 1021), some (.int (Int32.ofNat k)), some (.int t), some (.int (aw_cnt (fun j => decide (pi.getD (576 * k + j) 0 = t)) i)), some (.int (Int32.ofNat i))]) (st' := []) (h1 := am_h w g) rfl (fun b25 => ?_) (fun b25 => ?_)
    · have b25 : 576 ≤ i := (am_leN (i := 576) (n := i) (by omega) (by omega)).mp b25
      omega
    · have b25 : ¬ 576 ≤ i := fun hq9 => b25 ((am_leN (i := 576) (n := i) (by omega) (by omega)).mpr hq9)
      refine am_R.nxs 1 (pc' := 29) (lv' := [some (.ref 1021), some (.int (Int32.ofNat k)), some (.int t), some (.int (aw_cnt (fun j => decide (pi.getD (576 * k + j) 0 = t)) i)), some (.int (Int32.ofNat i))]) (st' := [.ref 1021]) (h1 := am_h w g) rfl ?_
      refine am_R.gf (pc' := 32) (v := .ref 1028) rfl (am_wf 21 (by decide) h21) rfl rfl rfl ?_
      refine am_R.nxs 3 (pc' := 37) (lv' := [some (.ref 1021), some (.int (Int32.ofNat k)), some (.int t), some (.int (aw_cnt (fun j => decide (pi.getD (576 * k + j) 0 = t)) i)), some (.int (Int32.ofNat i))]) (st' := [.int (576 * Int32.ofNat k), .ref 1028]) (h1 := am_h w g) rfl ?_
      rw [show (576 * Int32.ofNat k : Int32) = Int32.ofNat (576 * k) from am_mul 576 k]
      refine am_R.nxs 2 (pc' := 40) (lv' := [some (.ref 1021), some (.int (Int32.ofNat k)), some (.int t), some (.int (aw_cnt (fun j => decide (pi.getD (576 * k + j) 0 = t)) i)), some (.int (Int32.ofNat i))]) (st' := [.int (Int32.ofNat (576 * k) + Int32.ofNat i), .ref 1028]) (h1 := am_h w g) rfl ?_
      rw [show (Int32.ofNat (576 * k) + Int32.ofNat i : Int32) = Int32.ofNat ((576 * k) + i) from am_add (576 * k) i]
      refine am_R.ldi (i := ((576 * k) + i)) (xs := pi) (pc' := 41) rfl (am_wf 28 (by decide) h28) (by omega) (by omega) rfl ?_
      refine am_R.ites 2 (P := ¬ (pi.getD ((576 * k) + i) 0) = t) (T := 51) (F := 45) (lv' := [some (.ref 1021), some (.int (Int32.ofNat k)), some (.int t), some (.int (aw_cnt (fun j => decide (pi.getD (576 * k + j) 0 = t)) i)), some (.int (Int32.ofNat i))]) (st' := []) (h1 := am_h w g) rfl (fun b42 => ?_) (fun b42 => ?_)
      · refine am_R.nxs 3 (pc' := 56) (lv' := [some (.ref 1021), some (.int (Int32.ofNat k)), some (.int t), some (.int (aw_cnt (fun j => decide (pi.getD (576 * k + j) 0 = t)) i)), some (.int (Int32.ofNat i + 1))]) (st' := []) (h1 := am_h w g) rfl ?_
        rw [show (Int32.ofNat i + 1 : Int32) = Int32.ofNat (i + 1) from am_add i 1]
        refine am_R.nxs 1 (pc' := 20) (lv' := [some (.ref 1021), some (.int (Int32.ofNat k)), some (.int t), some (.int (aw_cnt (fun j => decide (pi.getD (576 * k + j) 0 = t)) i)), some (.int (Int32.ofNat (i + 1)))]) (st' := []) (h1 := am_h w g) rfl ?_
        have e9 : (aw_cnt (fun j => decide (pi.getD (576 * k + j) 0 = t)) (i + 1)) = (aw_cnt (fun j => decide (pi.getD (576 * k + j) 0 = t)) i) := if_neg (by rw [decide_eq_true_eq]; exact b42)
        rw [← e9]
        exact ih (i + 1) (by omega)
      · refine am_R.nxs 6 (pc' := 56) (lv' := [some (.ref 1021), some (.int (Int32.ofNat k)), some (.int t), some (.int ((aw_cnt (fun j => decide (pi.getD (576 * k + j) 0 = t)) i) + 1)), some (.int (Int32.ofNat i + 1))]) (st' := []) (h1 := am_h w g) rfl ?_
        rw [show (Int32.ofNat i + 1 : Int32) = Int32.ofNat (i + 1) from am_add i 1]
        refine am_R.nxs 1 (pc' := 20) (lv' := [some (.ref 1021), some (.int (Int32.ofNat k)), some (.int t), some (.int ((aw_cnt (fun j => decide (pi.getD (576 * k + j) 0 = t)) i) + 1)), some (.int (Int32.ofNat (i + 1)))]) (st' := []) (h1 := am_h w g) rfl ?_
        have e9 : (aw_cnt (fun j => decide (pi.getD (576 * k + j) 0 = t)) (i + 1)) = (aw_cnt (fun j => decide (pi.getD (576 * k + j) 0 = t)) i) + 1 := if_pos (decide_eq_true (Decidable.not_not.mp b42))
        rw [← e9]
        exact ih (i + 1) (by omega)
theorem aw_k135a {w : Nat → am_C} {g : am_H} (d : Nat) {ft ty wr wd wt sn : Int32} (h21 : w 21 = aw_c21 ft ty wr wd wt sn) {ma : List Int32} (h27 : w 27 = am_I 0 ma) (l27 : ma.length = 3) {pi : List Int32} (h28 : w 28 = am_I 0 pi) (l28 : pi.length = 1728) {k : Nat} (hk : k < 3) (hm : ¬ ma.getD k 0 = 0) (t : Int32)  : am_R (d + 1) 135 0 [some (.ref 1021), some (.int (Int32.ofNat k)), some (.int t), none, none] [] (am_h w g) (.inl (some (.int (aw_cnt (fun j => decide (pi.getD (576 * k + j) 0 = t)) 576)))) (am_h (am_pu w 21 (aw_c21 0 ty wr wd wt sn)) g) := by
  refine am_R.nxs 4 (pc' := 4) (lv' := [some (.ref 1021), some (.int (Int32.ofNat k)), some (.int t), none, none]) (st' := [.int 1, .int (Int32.ofNat k), .ref 1021, .ref 1021]) (h1 := am_h w g) rfl ?_
  refine am_R.cv (a := 1021) (as' := [.int (Int32.ofNat k), .int 1]) (r := [.ref 1021]) (v := some (.int 0)) (h1 := am_h w g) (pc' := 7) rfl rfl rfl rfl (am_wf 21 (by decide) h21) rfl rfl (aw_k133a d h21 h27 l27 hk hm) rfl ?_
  refine am_R.cv (a := 1021) (as' := [.int 0]) (r := []) (v := some (.int 0)) (h1 := am_h (am_pu w 21 (aw_c21 0 ty wr wd wt sn)) g) (pc' := 10) rfl rfl rfl rfl (am_wf 21 (by decide) h21) rfl rfl (aw_k99a (w := w) d h21 0 (by decide)) rfl ?_
  refine am_R.ites 1 (P := 0 = 0) (T := 15) (F := 13) (lv' := [some (.ref 1021), some (.int (Int32.ofNat k)), some (.int t), none, none]) (st' := []) (h1 := am_h (am_pu w 21 (aw_c21 0 ty wr wd wt sn)) g) rfl (fun b10 => ?_) (fun b10 => ?_)
  · refine am_R.nxs 4 (pc' := 20) (lv' := [some (.ref 1021), some (.int (Int32.ofNat k)), some (.int t), some (.int 0), some (.int 0)]) (st' := []) (h1 := am_h (am_pu w 21 (aw_c21 0 ty wr wd wt sn)) g) rfl ?_
    exact aw_k135l (w := am_pu w 21 (aw_c21 0 ty wr wd wt sn)) (d + 1) rfl h28 l28 hk t 576 0 rfl
  · exact absurd rfl b10
theorem aw_k135b {w : Nat → am_C} {g : am_H} (d : Nat) {ft ty wr wd wt sn : Int32} (h21 : w 21 = aw_c21 ft ty wr wd wt sn) {ma : List Int32} (h27 : w 27 = am_I 0 ma) (l27 : ma.length = 3) {k : Nat} (hk : k < 3) (hm : ma.getD k 0 = 0) (t : Int32) : am_R (d + 1) 135 0 [some (.ref 1021), some (.int (Int32.ofNat k)), some (.int t), none, none] [] (am_h w g) (.inl (some (.int 0))) (am_h (am_pu w 21 (aw_c21 2 ty wr wd wt sn)) g) := by
  refine am_R.nxs 4 (pc' := 4) (lv' := [some (.ref 1021), some (.int (Int32.ofNat k)), some (.int t), none, none]) (st' := [.int 1, .int (Int32.ofNat k), .ref 1021, .ref 1021]) (h1 := am_h w g) rfl ?_
  refine am_R.cv (a := 1021) (as' := [.int (Int32.ofNat k), .int 1]) (r := [.ref 1021]) (v := some (.int 2)) (h1 := am_h w g) (pc' := 7) rfl rfl rfl rfl (am_wf 21 (by decide) h21) rfl rfl (aw_k133b d h21 h27 l27 hk hm) rfl ?_
  refine am_R.cv (a := 1021) (as' := [.int 2]) (r := []) (v := some (.int 1)) (h1 := am_h (am_pu w 21 (aw_c21 2 ty wr wd wt sn)) g) (pc' := 10) rfl rfl rfl rfl (am_wf 21 (by decide) h21) rfl rfl (aw_k99b (w := w) d h21 2 (by decide)) rfl ?_
  refine am_R.ites 1 (P := 1 = 0) (T := 15) (F := 13) (lv' := [some (.ref 1021), some (.int (Int32.ofNat k)), some (.int t), none, none]) (st' := []) (h1 := am_h (am_pu w 21 (aw_c21 2 ty wr wd wt sn)) g) rfl (fun b10 => ?_) (fun b10 => ?_)
  · exact absurd b10 (by decide)
  · refine am_R.nxs 1 (pc' := 14) (lv' := [some (.ref 1021), some (.int (Int32.ofNat k)), some (.int t), none, none]) (st' := [.int 0]) (h1 := am_h (am_pu w 21 (aw_c21 2 ty wr wd wt sn)) g) rfl ?_
    exact am_R.reti rfl rfl rfl
theorem aw_k135c {w : Nat → am_C} {g : am_H} (d : Nat) {ft ty wr wd wt sn : Int32} (h21 : w 21 = aw_c21 ft ty wr wd wt sn) (s : Int32) (hs : s < 0 ∨ 2 < s) (t : Int32) : am_R (d + 1) 135 0 [some (.ref 1021), some (.int s), some (.int t), none, none] [] (am_h w g) (.inl (some (.int 0))) (am_h (am_pu w 21 (aw_c21 1 ty wr wd wt sn)) g) := by
  refine am_R.nxs 4 (pc' := 4) (lv' := [some (.ref 1021), some (.int s), some (.int t), none, none]) (st' := [.int 1, .int s, .ref 1021, .ref 1021]) (h1 := am_h w g) rfl ?_
  refine am_R.cv (a := 1021) (as' := [.int s, .int 1]) (r := [.ref 1021]) (v := some (.int 1)) (h1 := am_h w g) (pc' := 7) rfl rfl rfl rfl (am_wf 21 (by decide) h21) rfl rfl (aw_k133c d h21 s 1 (hs.elim Or.inl (fun q => Or.inr (Or.inl q)))) rfl ?_
  refine am_R.cv (a := 1021) (as' := [.int 1]) (r := []) (v := some (.int 1)) (h1 := am_h (am_pu w 21 (aw_c21 1 ty wr wd wt sn)) g) (pc' := 10) rfl rfl rfl rfl (am_wf 21 (by decide) h21) rfl rfl (aw_k99b (w := w) d h21 1 (by decide)) rfl ?_
  refine am_R.ites 1 (P := 1 = 0) (T := 15) (F := 13) (lv' := [some (.ref 1021), some (.int s), some (.int t), none, none]) (st' := []) (h1 := am_h (am_pu w 21 (aw_c21 1 ty wr wd wt sn)) g) rfl (fun b10 => ?_) (fun b10 => ?_)
  · exact absurd b10 (by decide)
  · refine am_R.nxs 1 (pc' := 14) (lv' := [some (.ref 1021), some (.int s), some (.int t), none, none]) (st' := [.int 0]) (h1 := am_h (am_pu w 21 (aw_c21 1 ty wr wd wt sn)) g) rfl ?_
    exact am_R.reti rfl rfl rfl
set_option maxRecDepth 100000 in
theorem aw_o5 : aw_Op 368 := by
  intro d i w g x5 x6 xs hI h0 hi hx
  obtain ⟨tl, pl, sp, ft, wd, wt, sn, h1, h21, hT, hP, hS, hC, u, hO⟩ := hI
  by_cases hs : xs.getD (i + 1) 0 < 0 ∨ ¬ xs.getD (i + 1) 0 < 3
  · refine ⟨am_pu w 21 (aw_c21 1 (Int32.ofNat tl) (Int32.ofNat pl) wd wt sn), g ++ [.inl (8, [])], some (.int 1), some (.int 0), ⟨tl, pl, sp, 1, wd, wt, sn, h1, rfl, hT, hP, aw_Shs_up (by omega) hS, hC, u, hO⟩, h0, by simp, aw_sz1 rfl, fun o h' K => ?_⟩
    exact aw_L5 d i x5 x6 h0 hi hx (aw_W72t8 (d + 38) h1 _ _ (aw_k73c (d + 36) h1 _ _ hs)) h0 h21 (aw_k135c (d + 38) h21 _ (aw_gt2 hs) _) rfl (fun q => absurd q (by decide)) K
  · obtain ⟨k, hk, hke⟩ := aw_sh3 hs
    obtain ⟨rs, r, to, ma, pi, br, bk, co, h4, hl, hr, hrs, ⟨m1, m2, m3, m4, m5, m6, m7, m8, m9, m10, m11, m12⟩, wc, bc, sc, ic, cc, dp, rd, ws, pc, bw, ⟨t1, t2, t3, t4, t5, t6, t7⟩, hsh⟩ := aw_get hS hk
    rcases hsh with ⟨hd, hm⟩ | ⟨hd, js, b, j1, j2, j3, j4, j5, j6, b1, b2, b3, b4, q1, q2, q3, q4, q5⟩
    · refine ⟨am_pu w 21 (aw_c21 2 (Int32.ofNat tl) (Int32.ofNat pl) wd wt sn), g ++ [.inl (9, [])], some (.int 2), some (.int 0), ⟨tl, pl, sp, 2, wd, wt, sn, h1, rfl, hT, hP, aw_Shs_up (by omega) hS, hC, u, hO⟩, h0, by simp, aw_sz1 rfl, fun o h' K => ?_⟩
      exact aw_L5 d i x5 x6 h0 hi hx (aw_W72t9 (d + 38) h1 _ _ (by rw [hke]; exact aw_k73b (d + 36) h1 h4 hl hk hr hrs t1 hd _)) h0 h21 (by rw [hke]; exact aw_k135b (d + 38) h21 m2 m8 hk hm _) rfl (fun q => absurd q (by decide)) K
    · have e6 : aw_cnt (fun j => decide (pc.getD j 0 = xs.getD (i + 2) 0)) pc.length = aw_cnt (fun j => decide (pi.getD (576 * k + j) 0 = xs.getD (i + 2) 0)) 576 := by
        rw [t6]
        exact aw_cnt_cong (fun j hj => by rw [j6 j hj])
      refine ⟨am_pu (am_pu w 44 (.inr (3, [.long (aw_cnt (fun j => decide (pc.getD j 0 = xs.getD (i + 2) 0)) pc.length).toInt64]))) 21 (aw_c21 0 (Int32.ofNat tl) (Int32.ofNat pl) wd wt sn), g, some (.int 0), some (.int (aw_cnt (fun j => decide (pc.getD j 0 = xs.getD (i + 2) 0)) pc.length)), ⟨tl, pl, sp, 0, wd, wt, sn, h1, rfl, hT, hP, aw_Shs_up (by omega) (aw_Shs_up (by omega) hS), hC, _, rfl⟩, h0, by omega, by omega, fun o h' K => ?_⟩
      exact aw_L5 d i x5 x6 h0 hi hx (aw_W72a (d + 38) h1 _ _ (by rw [hke]; exact aw_k73a (d + 36) h1 h4 hl hk hr hrs t1 t3 t6 hd _) hO) h0 h21 (by rw [hke, e6]; exact aw_k135a (w := am_pu w 44 _) (d + 38) h21 m2 m8 m3 m9 hk (by rw [j4]; exact aw_nz j1 j2) _) rfl (fun _ => rfl) K
end
section
/-! row, differ: loops of both sides, and their calls in the law. -/
theorem aw_k71l {w : Nat → am_C} {g : am_H} (d : Nat) {r : Nat} (hr : r < 4) {pc : List Int32} (hP : w (7 + 4 * r) = am_I 0 pc) (hpl : pc.length = 576) {y : Nat} (hy : y < 24) (t : Int32) (x1 : Option Value) : ∀ m i : Nat, i + m = 24 → am_R d 71 21 [some (.ref 1001), x1, some (.int (Int32.ofNat y)), some (.int t), some (.ref (1007 + 4 * r)), some (.int (aw_bitA (fun j => decide (pc.getD (y * 24 + j) 0 = t)) i)), some (.int (Int32.ofNat i))] [] (am_h w g) (.inl (some (.int (aw_bitA (fun j => decide (pc.getD (y * 24 + j) 0 = t)) 24)))) (am_h w g) := by
  intro m
  induction m with
  | zero =>
    intro i hi
    have hi9 : i = 24 := by omega
    subst hi9
    refine am_R.ites 3 (P := 24 ≤ Int32.ofNat 24) (T := 57) (F := 28) (lv' := [some (.ref 1001), x1, some (.int (Int32.ofNat y)), some (.int t), some (.ref (1007 + 4 * r)), some (.int (aw_bitA (fun j => decide (pc.getD (y * 24 + j) 0 = t)) 24)), some (.int (Int32.ofNat 24))]) (st' := []) (h1 := am_h w g) rfl (fun b25 => ?_) (fun b25 => ?_)
    · have b25 : 24 ≤ 24 := (am_leN (i := 24) (n := 24) (by omega) (by omega)).mp b25
      refine am_R.nxs 1 (pc' := 59) (lv' := [some (.ref 1001), x1, some (.int (Int32.ofNat y)), some (.int t), some (.ref (1007 + 4 * r)), some (.int (aw_bitA (fun j => decide (pc.getD (y * 24 + j) 0 = t)) 24)), some (.int (Int32.ofNat 24))]) (st' := [.int (aw_bitA (fun j => decide (pc.getD (y * 24 + j) 0 = t)) 24)]) (h1 := am_h w g) rfl ?_
      exact am_R.reti rfl rfl rfl
    · have b25 : ¬ 24 ≤ 24 := fun hq9 => b25 ((am_leN (i := 24) (n := 24) (by omega) (by omega)).mpr hq9)
      omega
  | succ m ih =>
    intro i hi
    refine am_R.ites 3 (P := 24 ≤ Int32.ofNat i) (T := 57) (F := 28) (lv' := [some (.ref 1001), x1, some (.int (Int32.ofNat y)), some (.int t), some (.ref (1007 + 4 * r)), some (.int (aw_bitA (fun j => decide (pc.getD (y * 24 + j) 0 = t)) i)), some (.int (Int32.ofNat i))]) (st' := []) (h1 := am_h w g) rfl (fun b25 => ?_) (fun b25 => ?_)
    · have b25 : 24 ≤ i := (am_leN (i := 24) (n := i) (by omega) (by omega)).mp b25
      omega
    · have b25 : ¬ 24 ≤ i := fun hq9 => b25 ((am_leN (i := 24) (n := i) (by omega) (by omega)).mpr hq9)
      refine am_R.nxs 4 (pc' := 34) (lv' := [some (.ref 1001), x1, some (.int (Int32.ofNat y)), some (.int t), some (.ref (1007 + 4 * r)), some (.int (aw_bitA (fun j => decide (pc.getD (y * 24 + j) 0 = t)) i)), some (.int (Int32.ofNat i))]) (st' := [.int (Int32.ofNat y * 24), .ref (1007 + 4 * r)]) (h1 := am_h w g) rfl ?_
      rw [show (Int32.ofNat y * 24 : Int32) = Int32.ofNat (y * 24) from am_mul y 24]
      refine am_R.nxs 2 (pc' := 37) (lv' := [some (.ref 1001), x1, some (.int (Int32.ofNat y)), some (.int t), some (.ref (1007 + 4 * r)), some (.int (aw_bitA (fun j => decide (pc.getD (y * 24 + j) 0 = t)) i)), some (.int (Int32.ofNat i))]) (st' := [.int (Int32.ofNat (y * 24) + Int32.ofNat i), .ref (1007 + 4 * r)]) (h1 := am_h w g) rfl ?_
      rw [show (Int32.ofNat (y * 24) + Int32.ofNat i : Int32) = Int32.ofNat ((y * 24) + i) from am_add (y * 24) i]
      refine am_R.ldi (i := ((y * 24) + i)) (xs := pc) (pc' := 38) rfl (aw_at7 hr hP) (by omega) (by omega) rfl ?_
      refine am_R.ites 2 (P := ¬ (pc.getD ((y * 24) + i) 0) = t) (T := 51) (F := 42) (lv' := [some (.ref 1001), x1, some (.int (Int32.ofNat y)), some (.int t), some (.ref (1007 + 4 * r)), some (.int (aw_bitA (fun j => decide (pc.getD (y * 24 + j) 0 = t)) i)), some (.int (Int32.ofNat i))]) (st' := []) (h1 := am_h w g) rfl (fun b39 => ?_) (fun b39 => ?_)
      · refine am_R.nxs 1 (pc' := 54) (lv' := [some (.ref 1001), x1, some (.int (Int32.ofNat y)), some (.int t), some (.ref (1007 + 4 * r)), some (.int (aw_bitA (fun j => decide (pc.getD (y * 24 + j) 0 = t)) i)), some (.int (Int32.ofNat i + 1))]) (st' := []) (h1 := am_h w g) rfl ?_
        rw [show (Int32.ofNat i + 1 : Int32) = Int32.ofNat (i + 1) from am_add i 1]
        refine am_R.nxs 1 (pc' := 21) (lv' := [some (.ref 1001), x1, some (.int (Int32.ofNat y)), some (.int t), some (.ref (1007 + 4 * r)), some (.int (aw_bitA (fun j => decide (pc.getD (y * 24 + j) 0 = t)) i)), some (.int (Int32.ofNat (i + 1)))]) (st' := []) (h1 := am_h w g) rfl ?_
        have e9 : (aw_bitA (fun j => decide (pc.getD (y * 24 + j) 0 = t)) (i + 1)) = (aw_bitA (fun j => decide (pc.getD (y * 24 + j) 0 = t)) i) := if_neg (by rw [decide_eq_true_eq]; first | exact b39 | exact fun q => q b39 | exact fun q => b39 q)
        rw [← e9]
        exact ih (i + 1) (by omega)
      · refine am_R.nxs 7 (pc' := 54) (lv' := [some (.ref 1001), x1, some (.int (Int32.ofNat y)), some (.int t), some (.ref (1007 + 4 * r)), some (.int ((aw_bitA (fun j => decide (pc.getD (y * 24 + j) 0 = t)) i) + (1 <<< (Int32.ofNat i &&& 31)))), some (.int (Int32.ofNat i + 1))]) (st' := []) (h1 := am_h w g) rfl ?_
        rw [show (Int32.ofNat i + 1 : Int32) = Int32.ofNat (i + 1) from am_add i 1]
        refine am_R.nxs 1 (pc' := 21) (lv' := [some (.ref 1001), x1, some (.int (Int32.ofNat y)), some (.int t), some (.ref (1007 + 4 * r)), some (.int ((aw_bitA (fun j => decide (pc.getD (y * 24 + j) 0 = t)) i) + (1 <<< (Int32.ofNat i &&& 31)))), some (.int (Int32.ofNat (i + 1)))]) (st' := []) (h1 := am_h w g) rfl ?_
        have e9 : (aw_bitA (fun j => decide (pc.getD (y * 24 + j) 0 = t)) (i + 1)) = (aw_bitA (fun j => decide (pc.getD (y * 24 + j) 0 = t)) i) + (1 <<< (Int32.ofNat i &&& 31)) := if_pos (decide_eq_true (by first | exact b39 | exact Decidable.not_not.mp b39))
        rw [← e9]
        exact ih (i + 1) (by omega)
theorem aw_k71a {w : Nat → am_C} {g : am_H} (d : Nat) {tl pl sp : Nat} (h1 : w 1 = aw_c1 tl pl sp) {rs : List Value} (h4 : w 4 = .inr (5, rs)) (hl : rs.length = 3) {k r : Nat} (hk : k < 3) (hr : r < 4) (hrs : rs[k]? = some (.ref (1005 + 4 * r))) {wc bc sc ic cc dp rd : Int32} (hT : w (5 + 4 * r) = aw_cT r wc bc sc ic cc dp rd) {pc : List Int32} (hP : w (7 + 4 * r) = am_I 0 pc) (hpl : pc.length = 576) {y : Nat} (hy : y < 24) (hd : rd = 1) (t : Int32) : am_R (d + 2) 71 0 [some (.ref 1001), some (.int (Int32.ofNat k)), some (.int (Int32.ofNat y)), some (.int t), none, none, none] [] (am_h w g) (.inl (some (.int (aw_bitA (fun j => decide (pc.getD (y * 24 + j) 0 = t)) 24)))) (am_h w g) := by
  refine am_R.nxs 2 (pc' := 2) (lv' := [some (.ref 1001), some (.int (Int32.ofNat k)), some (.int (Int32.ofNat y)), some (.int t), none, none, none]) (st' := [.int (Int32.ofNat y), .ref 1001]) (h1 := am_h w g) rfl ?_
  refine am_R.cv (a := 1001) (as' := [.int (Int32.ofNat y)]) (r := []) (v := none) (h1 := am_h w g) (pc' := 5) rfl rfl rfl rfl (am_wf 1 (by decide) h1) rfl rfl (aw_k68a (d + 1) _ _ (aw_nn y) ((am_ltN (n := 24) (by omega) (by decide)).mpr hy)) rfl ?_
  refine am_R.nxs 2 (pc' := 7) (lv' := [some (.ref 1001), some (.int (Int32.ofNat k)), some (.int (Int32.ofNat y)), some (.int t), none, none, none]) (st' := [.int (Int32.ofNat k), .ref 1001]) (h1 := am_h w g) rfl ?_
  refine am_R.cv (a := 1001) (as' := [.int (Int32.ofNat k)]) (r := []) (v := some (.ref (1005 + 4 * r))) (h1 := am_h w g) (pc' := 10) rfl rfl rfl rfl (am_wf 1 (by decide) h1) rfl rfl (aw_k69a d h1 h4 hl hk hr hrs hT hd) rfl ?_
  refine am_R.gf (pc' := 13) (v := .ref (1007 + 4 * r)) rfl (aw_at5 hr hT) rfl rfl rfl ?_
  refine am_R.nxs 5 (pc' := 21) (lv' := [some (.ref 1001), some (.int (Int32.ofNat k)), some (.int (Int32.ofNat y)), some (.int t), some (.ref (1007 + 4 * r)), some (.int 0), some (.int 0)]) (st' := []) (h1 := am_h w g) rfl ?_
  exact aw_k71l (d + 2) hr hP hpl hy t _ 24 0 rfl
theorem aw_k71b {w : Nat → am_C} {g : am_H} (d : Nat) {tl pl sp : Nat} (h1 : w 1 = aw_c1 tl pl sp) {rs : List Value} (h4 : w 4 = .inr (5, rs)) (hl : rs.length = 3) {k r : Nat} (hk : k < 3) (hr : r < 4) (hrs : rs[k]? = some (.ref (1005 + 4 * r))) {wc bc sc ic cc dp rd : Int32} (hT : w (5 + 4 * r) = aw_cT r wc bc sc ic cc dp rd) {y : Int32} (hy : ¬ y < 0 ∧ y < 24) (hd : rd = 0) (t : Int32) : am_R (d + 2) 71 0 [some (.ref 1001), some (.int (Int32.ofNat k)), some (.int y), some (.int t), none, none, none] [] (am_h w g) (.inr (1000 + (am_h w g).length)) (am_h w (g ++ [.inl (9, [])])) := by
  refine am_R.nxs 2 (pc' := 2) (lv' := [some (.ref 1001), some (.int (Int32.ofNat k)), some (.int y), some (.int t), none, none, none]) (st' := [.int y, .ref 1001]) (h1 := am_h w g) rfl ?_
  refine am_R.cv (a := 1001) (as' := [.int y]) (r := []) (v := none) (h1 := am_h w g) (pc' := 5) rfl rfl rfl rfl (am_wf 1 (by decide) h1) rfl rfl (aw_k68a (d + 1) _ _ hy.1 hy.2) rfl ?_
  refine am_R.nxs 2 (pc' := 7) (lv' := [some (.ref 1001), some (.int (Int32.ofNat k)), some (.int y), some (.int t), none, none, none]) (st' := [.int (Int32.ofNat k), .ref 1001]) (h1 := am_h w g) rfl ?_
  exact am_R.cvp (a := 1001) (as' := [.int (Int32.ofNat k)]) (r := []) rfl rfl rfl rfl (am_wf 1 (by decide) h1) rfl rfl (aw_k69b d h1 h4 hl hk hr hrs hT hd) rfl
theorem aw_k71c {w : Nat → am_C} {g : am_H} (d : Nat) {tl pl sp : Nat} (h1 : w 1 = aw_c1 tl pl sp) {y : Int32} (hy : ¬ y < 0 ∧ y < 24) {s : Int32} (t : Int32) (hs : s < 0 ∨ ¬ s < 3) : am_R (d + 2) 71 0 [some (.ref 1001), some (.int s), some (.int y), some (.int t), none, none, none] [] (am_h w g) (.inr (1000 + (am_h w g).length)) (am_h w (g ++ [.inl (8, [])])) := by
  refine am_R.nxs 2 (pc' := 2) (lv' := [some (.ref 1001), some (.int s), some (.int y), some (.int t), none, none, none]) (st' := [.int y, .ref 1001]) (h1 := am_h w g) rfl ?_
  refine am_R.cv (a := 1001) (as' := [.int y]) (r := []) (v := none) (h1 := am_h w g) (pc' := 5) rfl rfl rfl rfl (am_wf 1 (by decide) h1) rfl rfl (aw_k68a (d + 1) _ _ hy.1 hy.2) rfl ?_
  refine am_R.nxs 2 (pc' := 7) (lv' := [some (.ref 1001), some (.int s), some (.int y), some (.int t), none, none, none]) (st' := [.int s, .ref 1001]) (h1 := am_h w g) rfl ?_
  exact am_R.cvp (a := 1001) (as' := [.int s]) (r := []) rfl rfl rfl rfl (am_wf 1 (by decide) h1) rfl rfl (aw_k69c d h1 s hs) rfl
theorem aw_k71e {w : Nat → am_C} {g : am_H} (d : Nat) {tl pl sp : Nat} (h1 : w 1 = aw_c1 tl pl sp) {s y : Int32} (t : Int32) (hy : y < 0 ∨ ¬ y < 24) : am_R (d + 2) 71 0 [some (.ref 1001), some (.int s), some (.int y), some (.int t), none, none, none] [] (am_h w g) (.inr (1000 + (am_h w g).length)) (am_h w (g ++ [.inl (8, [])])) := by
  refine am_R.nxs 2 (pc' := 2) (lv' := [some (.ref 1001), some (.int s), some (.int y), some (.int t), none, none, none]) (st' := [.int y, .ref 1001]) (h1 := am_h w g) rfl ?_
  exact am_R.cvp (a := 1001) (as' := [.int y]) (r := []) rfl rfl rfl rfl (am_wf 1 (by decide) h1) rfl rfl (aw_k68b (d + 1) _ _ hy) rfl
theorem aw_k134l {w : Nat → am_C} {g : am_H} (d : Nat) {ft ty wr wd wt sn : Int32} (h21 : w 21 = aw_c21 ft ty wr wd wt sn) {pi : List Int32} (h28 : w 28 = am_I 0 pi) (l28 : pi.length = 1728) {k : Nat} (hk : k < 3) {y : Nat} (hy : y < 24) (t : Int32) : ∀ m i : Nat, i + m = 24 → am_R d 134 35 [some (.ref 1021), some (.int (Int32.ofNat k)), some (.int (Int32.ofNat y)), some (.int t), some (.int (aw_bitO (fun j => decide (pi.getD (576 * k + 24 * y + j) 0 = t)) i)), some (.int (Int32.ofNat i))] [] (am_h w g) (.inl (some (.int (aw_bitO (fun j => decide (pi.getD (576 * k + 24 * y + j) 0 = t)) 24)))) (am_h w g) := by
  intro m
  induction m with
  | zero =>
    intro i hi
    have hi9 : i = 24 := by omega
    subst hi9
    refine am_R.ites 3 (P := 24 ≤ Int32.ofNat 24) (T := 84) (F := 42) (lv' := [some (.ref 1021), some (.int (Int32.ofNat k)), some (.int (Int32.ofNat y)), some (.int t), some (.int (aw_bitO (fun j => decide (pi.getD (576 * k + 24 * y + j) 0 = t)) 24)), some (.int (Int32.ofNat 24))]) (st' := []) (h1 := am_h w g) rfl (fun b39 => ?_) (fun b39 => ?_)
    · have b39 : 24 ≤ 24 := (am_leN (i := 24) (n := 24) (by omega) (by omega)).mp b39
      refine am_R.nxs 1 (pc' := 86) (lv' := [some (.ref 1021), some (.int (Int32.ofNat k)), some (.int (Int32.ofNat y)), some (.int t), some (.int (aw_bitO (fun j => decide (pi.getD (576 * k + 24 * y + j) 0 = t)) 24)), some (.int (Int32.ofNat 24))]) (st' := [.int (aw_bitO (fun j => decide (pi.getD (576 * k + 24 * y + j) 0 = t)) 24)]) (h1 := am_h w g) rfl ?_
      exact am_R.reti rfl rfl rfl
    · have b39 : ¬ 24 ≤ 24 := fun hq9 => b39 ((am_leN (i := 24) (n := 24) (by omega) (by omega)).mpr hq9)
      omega
  | succ m ih =>
    intro i hi
    refine am_R.ites 3 (P := 24 ≤ Int32.ofNat i) (T := 84) (F := 42) (lv' := [some (.ref 1021), some (.int (Int32.ofNat k)), some (.int (Int32.ofNat y)), some (.int t), some (.int (aw_bitO (fun j => decide (pi.getD (576 * k + 24 * y + j) 0 = t)) i)), some (.int (Int32.ofNat i))]) (st' := []) (h1 := am_h w g) rfl (fun b39 => ?_) (fun b39 => ?_)
    · have b39 : 24 ≤ i := (am_leN (i := 24) (n := i) (by omega) (by omega)).mp b39
      omega
    · have b39 : ¬ 24 ≤ i := fun hq9 => b39 ((am_leN (i := 24) (n := i) (by omega) (by omega)).mpr hq9)
      refine am_R.nxs 1 (pc' := 43) (lv' := [some (.ref 1021), some (.int (Int32.ofNat k)), some (.int (Int32.ofNat y)), some (.int t), some (.int (aw_bitO (fun j => decide (pi.getD (576 * k + 24 * y + j) 0 = t)) i)), some (.int (Int32.ofNat i))]) (st' := [.ref 1021]) (h1 := am_h w g) rfl ?_
      refine am_R.gf (pc' := 46) (v := .ref 1028) rfl (am_wf 21 (by decide) h21) rfl rfl rfl ?_
      refine am_R.nxs 3 (pc' := 51) (lv' := [some (.ref 1021), some (.int (Int32.ofNat k)), some (.int (Int32.ofNat y)), some (.int t), some (.int (aw_bitO (fun j => decide (pi.getD (576 * k + 24 * y + j) 0 = t)) i)), some (.int (Int32.ofNat i))]) (st' := [.int (576 * Int32.ofNat k), .ref 1028]) (h1 := am_h w g) rfl ?_
      rw [show (576 * Int32.ofNat k : Int32) = Int32.ofNat (576 * k) from am_mul 576 k]
      refine am_R.nxs 3 (pc' := 55) (lv' := [some (.ref 1021), some (.int (Int32.ofNat k)), some (.int (Int32.ofNat y)), some (.int t), some (.int (aw_bitO (fun j => decide (pi.getD (576 * k + 24 * y + j) 0 = t)) i)), some (.int (Int32.ofNat i))]) (st' := [.int (24 * Int32.ofNat y), .int (Int32.ofNat (576 * k)), .ref 1028]) (h1 := am_h w g) rfl ?_
      rw [show (24 * Int32.ofNat y : Int32) = Int32.ofNat (24 * y) from am_mul 24 y]
      refine am_R.nxs 1 (pc' := 56) (lv' := [some (.ref 1021), some (.int (Int32.ofNat k)), some (.int (Int32.ofNat y)), some (.int t), some (.int (aw_bitO (fun j => decide (pi.getD (576 * k + 24 * y + j) 0 = t)) i)), some (.int (Int32.ofNat i))]) (st' := [.int (Int32.ofNat (576 * k) + Int32.ofNat (24 * y)), .ref 1028]) (h1 := am_h w g) rfl ?_
      rw [show (Int32.ofNat (576 * k) + Int32.ofNat (24 * y) : Int32) = Int32.ofNat ((576 * k) + (24 * y)) from am_add (576 * k) (24 * y)]
      refine am_R.nxs 2 (pc' := 59) (lv' := [some (.ref 1021), some (.int (Int32.ofNat k)), some (.int (Int32.ofNat y)), some (.int t), some (.int (aw_bitO (fun j => decide (pi.getD (576 * k + 24 * y + j) 0 = t)) i)), some (.int (Int32.ofNat i))]) (st' := [.int (Int32.ofNat ((576 * k) + (24 * y)) + Int32.ofNat i), .ref 1028]) (h1 := am_h w g) rfl ?_
      rw [show (Int32.ofNat ((576 * k) + (24 * y)) + Int32.ofNat i : Int32) = Int32.ofNat (((576 * k) + (24 * y)) + i) from am_add ((576 * k) + (24 * y)) i]
      refine am_R.ldi (i := (((576 * k) + (24 * y)) + i)) (xs := pi) (pc' := 60) rfl (am_wf 28 (by decide) h28) (by omega) (by omega) rfl ?_
      refine am_R.ites 2 (P := ¬ (pi.getD (((576 * k) + (24 * y)) + i) 0) = t) (T := 74) (F := 64) (lv' := [some (.ref 1021), some (.int (Int32.ofNat k)), some (.int (Int32.ofNat y)), some (.int t), some (.int (aw_bitO (fun j => decide (pi.getD (576 * k + 24 * y + j) 0 = t)) i)), some (.int (Int32.ofNat i))]) (st' := []) (h1 := am_h w g) rfl (fun b61 => ?_) (fun b61 => ?_)
      · refine am_R.nxs 3 (pc' := 81) (lv' := [some (.ref 1021), some (.int (Int32.ofNat k)), some (.int (Int32.ofNat y)), some (.int t), some (.int (aw_bitO (fun j => decide (pi.getD (576 * k + 24 * y + j) 0 = t)) i)), some (.int (Int32.ofNat i + 1))]) (st' := []) (h1 := am_h w g) rfl ?_
        rw [show (Int32.ofNat i + 1 : Int32) = Int32.ofNat (i + 1) from am_add i 1]
        refine am_R.nxs 1 (pc' := 35) (lv' := [some (.ref 1021), some (.int (Int32.ofNat k)), some (.int (Int32.ofNat y)), some (.int t), some (.int (aw_bitO (fun j => decide (pi.getD (576 * k + 24 * y + j) 0 = t)) i)), some (.int (Int32.ofNat (i + 1)))]) (st' := []) (h1 := am_h w g) rfl ?_
        have e9 : (aw_bitO (fun j => decide (pi.getD (576 * k + 24 * y + j) 0 = t)) (i + 1)) = (aw_bitO (fun j => decide (pi.getD (576 * k + 24 * y + j) 0 = t)) i) := if_neg (by rw [decide_eq_true_eq]; first | exact b61 | exact fun q => q b61 | exact fun q => b61 q)
        rw [← e9]
        exact ih (i + 1) (by omega)
      · refine am_R.nxs 8 (pc' := 81) (lv' := [some (.ref 1021), some (.int (Int32.ofNat k)), some (.int (Int32.ofNat y)), some (.int t), some (.int ((aw_bitO (fun j => decide (pi.getD (576 * k + 24 * y + j) 0 = t)) i) ||| (1 <<< (Int32.ofNat i &&& 31)))), some (.int (Int32.ofNat i + 1))]) (st' := []) (h1 := am_h w g) rfl ?_
        rw [show (Int32.ofNat i + 1 : Int32) = Int32.ofNat (i + 1) from am_add i 1]
        refine am_R.nxs 1 (pc' := 35) (lv' := [some (.ref 1021), some (.int (Int32.ofNat k)), some (.int (Int32.ofNat y)), some (.int t), some (.int ((aw_bitO (fun j => decide (pi.getD (576 * k + 24 * y + j) 0 = t)) i) ||| (1 <<< (Int32.ofNat i &&& 31)))), some (.int (Int32.ofNat (i + 1)))]) (st' := []) (h1 := am_h w g) rfl ?_
        have e9 : (aw_bitO (fun j => decide (pi.getD (576 * k + 24 * y + j) 0 = t)) (i + 1)) = (aw_bitO (fun j => decide (pi.getD (576 * k + 24 * y + j) 0 = t)) i) ||| (1 <<< (Int32.ofNat i &&& 31)) := if_pos (decide_eq_true (by first | exact b61 | exact Decidable.not_not.mp b61))
        rw [← e9]
        exact ih (i + 1) (by omega)
theorem aw_k134a {w : Nat → am_C} {g : am_H} (d : Nat) {ft ty wr wd wt sn : Int32} (h21 : w 21 = aw_c21 ft ty wr wd wt sn) {ma : List Int32} (h27 : w 27 = am_I 0 ma) (l27 : ma.length = 3) {pi : List Int32} (h28 : w 28 = am_I 0 pi) (l28 : pi.length = 1728) {k : Nat} (hk : k < 3) {y : Nat} (hy : y < 24) (hm : ¬ ma.getD k 0 = 0) (t : Int32) : am_R (d + 1) 134 0 [some (.ref 1021), some (.int (Int32.ofNat k)), some (.int (Int32.ofNat y)), some (.int t), none, none] [] (am_h w g) (.inl (some (.int (aw_bitO (fun j => decide (pi.getD (576 * k + 24 * y + j) 0 = t)) 24)))) (am_h (am_pu w 21 (aw_c21 0 ty wr wd wt sn)) g) := by
  refine am_R.ites 5 (P := Int32.ofNat y < 0) (T := 17) (F := 7) (lv' := [some (.ref 1021), some (.int (Int32.ofNat k)), some (.int (Int32.ofNat y)), some (.int t), none, none]) (st' := [.int (Int32.ofNat k), .ref 1021, .ref 1021]) (h1 := am_h w g) rfl (fun b4 => ?_) (fun b4 => ?_)
  · exact absurd b4 (aw_nn y)
  · refine am_R.ites 3 (P := 24 ≤ Int32.ofNat y) (T := 17) (F := 13) (lv' := [some (.ref 1021), some (.int (Int32.ofNat k)), some (.int (Int32.ofNat y)), some (.int t), none, none]) (st' := [.int (Int32.ofNat k), .ref 1021, .ref 1021]) (h1 := am_h w g) rfl (fun b10 => ?_) (fun b10 => ?_)
    · have b10 : 24 ≤ y := (am_leN (i := 24) (n := y) (by omega) (by omega)).mp b10
      omega
    · have b10 : ¬ 24 ≤ y := fun hq9 => b10 ((am_leN (i := 24) (n := y) (by omega) (by omega)).mpr hq9)
      refine am_R.nxs 2 (pc' := 18) (lv' := [some (.ref 1021), some (.int (Int32.ofNat k)), some (.int (Int32.ofNat y)), some (.int t), none, none]) (st' := [.int 1, .int (Int32.ofNat k), .ref 1021, .ref 1021]) (h1 := am_h w g) rfl ?_
      refine am_R.cv (a := 1021) (as' := [.int (Int32.ofNat k), .int 1]) (r := [.ref 1021]) (v := some (.int 0)) (h1 := am_h w g) (pc' := 21) rfl rfl rfl rfl (am_wf 21 (by decide) h21) rfl rfl (aw_k133a d h21 h27 l27 hk hm) rfl ?_
      refine am_R.cv (a := 1021) (as' := [.int 0]) (r := []) (v := some (.int 0)) (h1 := am_h (am_pu w 21 (aw_c21 0 ty wr wd wt sn)) g) (pc' := 24) rfl rfl rfl rfl (am_wf 21 (by decide) h21) rfl rfl (aw_k99a (w := w) d h21 0 (by decide)) rfl ?_
      refine am_R.ites 1 (P := 0 = 0) (T := 29) (F := 27) (lv' := [some (.ref 1021), some (.int (Int32.ofNat k)), some (.int (Int32.ofNat y)), some (.int t), none, none]) (st' := []) (h1 := am_h (am_pu w 21 (aw_c21 0 ty wr wd wt sn)) g) rfl (fun b24 => ?_) (fun b24 => ?_)
      · refine am_R.nxs 4 (pc' := 35) (lv' := [some (.ref 1021), some (.int (Int32.ofNat k)), some (.int (Int32.ofNat y)), some (.int t), some (.int 0), some (.int 0)]) (st' := []) (h1 := am_h (am_pu w 21 (aw_c21 0 ty wr wd wt sn)) g) rfl ?_
        exact aw_k134l (w := am_pu w 21 (aw_c21 0 ty wr wd wt sn)) (d + 1) rfl h28 l28 hk hy t 24 0 rfl
      · exact absurd rfl b24
theorem aw_k134b {w : Nat → am_C} {g : am_H} (d : Nat) {ft ty wr wd wt sn : Int32} (h21 : w 21 = aw_c21 ft ty wr wd wt sn) {ma : List Int32} (h27 : w 27 = am_I 0 ma) (l27 : ma.length = 3) {k : Nat} (hk : k < 3) {y : Int32} (hy : ¬ y < 0 ∧ y < 24) (hm : ma.getD k 0 = 0) (t : Int32) : am_R (d + 1) 134 0 [some (.ref 1021), some (.int (Int32.ofNat k)), some (.int y), some (.int t), none, none] [] (am_h w g) (.inl (some (.int 0))) (am_h (am_pu w 21 (aw_c21 2 ty wr wd wt sn)) g) := by
  refine am_R.ites 5 (P := y < 0) (T := 17) (F := 7) (lv' := [some (.ref 1021), some (.int (Int32.ofNat k)), some (.int y), some (.int t), none, none]) (st' := [.int (Int32.ofNat k), .ref 1021, .ref 1021]) (h1 := am_h w g) rfl (fun b4 => ?_) (fun b4 => ?_)
  · exact absurd b4 hy.1
  · refine am_R.ites 3 (P := 24 ≤ y) (T := 17) (F := 13) (lv' := [some (.ref 1021), some (.int (Int32.ofNat k)), some (.int y), some (.int t), none, none]) (st' := [.int (Int32.ofNat k), .ref 1021, .ref 1021]) (h1 := am_h w g) rfl (fun b10 => ?_) (fun b10 => ?_)
    · exact absurd hy.2 (Int32.not_lt.mpr b10)
    · refine am_R.nxs 2 (pc' := 18) (lv' := [some (.ref 1021), some (.int (Int32.ofNat k)), some (.int y), some (.int t), none, none]) (st' := [.int 1, .int (Int32.ofNat k), .ref 1021, .ref 1021]) (h1 := am_h w g) rfl ?_
      refine am_R.cv (a := 1021) (as' := [.int (Int32.ofNat k), .int 1]) (r := [.ref 1021]) (v := some (.int 2)) (h1 := am_h w g) (pc' := 21) rfl rfl rfl rfl (am_wf 21 (by decide) h21) rfl rfl (aw_k133b d h21 h27 l27 hk hm) rfl ?_
      refine am_R.cv (a := 1021) (as' := [.int 2]) (r := []) (v := some (.int 1)) (h1 := am_h (am_pu w 21 (aw_c21 2 ty wr wd wt sn)) g) (pc' := 24) rfl rfl rfl rfl (am_wf 21 (by decide) h21) rfl rfl (aw_k99b (w := w) d h21 2 (by decide)) rfl ?_
      refine am_R.ites 1 (P := 1 = 0) (T := 29) (F := 27) (lv' := [some (.ref 1021), some (.int (Int32.ofNat k)), some (.int y), some (.int t), none, none]) (st' := []) (h1 := am_h (am_pu w 21 (aw_c21 2 ty wr wd wt sn)) g) rfl (fun b24 => ?_) (fun b24 => ?_)
      · exact absurd b24 (by decide)
      · refine am_R.nxs 1 (pc' := 28) (lv' := [some (.ref 1021), some (.int (Int32.ofNat k)), some (.int y), some (.int t), none, none]) (st' := [.int 0]) (h1 := am_h (am_pu w 21 (aw_c21 2 ty wr wd wt sn)) g) rfl ?_
        exact am_R.reti rfl rfl rfl
theorem aw_k134c {w : Nat → am_C} {g : am_H} (d : Nat) {ft ty wr wd wt sn : Int32} (h21 : w 21 = aw_c21 ft ty wr wd wt sn) {y : Int32} (hy : ¬ y < 0 ∧ y < 24) {s : Int32} (t : Int32) (hs : s < 0 ∨ 2 < s) : am_R (d + 1) 134 0 [some (.ref 1021), some (.int s), some (.int y), some (.int t), none, none] [] (am_h w g) (.inl (some (.int 0))) (am_h (am_pu w 21 (aw_c21 1 ty wr wd wt sn)) g) := by
  refine am_R.ites 5 (P := y < 0) (T := 17) (F := 7) (lv' := [some (.ref 1021), some (.int s), some (.int y), some (.int t), none, none]) (st' := [.int s, .ref 1021, .ref 1021]) (h1 := am_h w g) rfl (fun b4 => ?_) (fun b4 => ?_)
  · exact absurd b4 hy.1
  · refine am_R.ites 3 (P := 24 ≤ y) (T := 17) (F := 13) (lv' := [some (.ref 1021), some (.int s), some (.int y), some (.int t), none, none]) (st' := [.int s, .ref 1021, .ref 1021]) (h1 := am_h w g) rfl (fun b10 => ?_) (fun b10 => ?_)
    · exact absurd hy.2 (Int32.not_lt.mpr b10)
    · refine am_R.nxs 2 (pc' := 18) (lv' := [some (.ref 1021), some (.int s), some (.int y), some (.int t), none, none]) (st' := [.int 1, .int s, .ref 1021, .ref 1021]) (h1 := am_h w g) rfl ?_
      refine am_R.cv (a := 1021) (as' := [.int s, .int 1]) (r := [.ref 1021]) (v := some (.int 1)) (h1 := am_h w g) (pc' := 21) rfl rfl rfl rfl (am_wf 21 (by decide) h21) rfl rfl (aw_k133c d h21 s 1 (hs.elim Or.inl (fun q => Or.inr (Or.inl q)))) rfl ?_
      refine am_R.cv (a := 1021) (as' := [.int 1]) (r := []) (v := some (.int 1)) (h1 := am_h (am_pu w 21 (aw_c21 1 ty wr wd wt sn)) g) (pc' := 24) rfl rfl rfl rfl (am_wf 21 (by decide) h21) rfl rfl (aw_k99b (w := w) d h21 1 (by decide)) rfl ?_
      refine am_R.ites 1 (P := 1 = 0) (T := 29) (F := 27) (lv' := [some (.ref 1021), some (.int s), some (.int y), some (.int t), none, none]) (st' := []) (h1 := am_h (am_pu w 21 (aw_c21 1 ty wr wd wt sn)) g) rfl (fun b24 => ?_) (fun b24 => ?_)
      · exact absurd b24 (by decide)
      · refine am_R.nxs 1 (pc' := 28) (lv' := [some (.ref 1021), some (.int s), some (.int y), some (.int t), none, none]) (st' := [.int 0]) (h1 := am_h (am_pu w 21 (aw_c21 1 ty wr wd wt sn)) g) rfl ?_
        exact am_R.reti rfl rfl rfl
theorem aw_k134e {w : Nat → am_C} {g : am_H} (d : Nat) {ft ty wr wd wt sn : Int32} (h21 : w 21 = aw_c21 ft ty wr wd wt sn) {s y : Int32} (t : Int32) (hy : y < 0 ∨ ¬ y < 24) : am_R (d + 1) 134 0 [some (.ref 1021), some (.int s), some (.int y), some (.int t), none, none] [] (am_h w g) (.inl (some (.int 0))) (am_h (am_pu w 21 (aw_c21 1 ty wr wd wt sn)) g) := by
  refine am_R.ites 5 (P := y < 0) (T := 17) (F := 7) (lv' := [some (.ref 1021), some (.int s), some (.int y), some (.int t), none, none]) (st' := [.int s, .ref 1021, .ref 1021]) (h1 := am_h w g) rfl (fun b4 => ?_) (fun b4 => ?_)
  · refine am_R.nxs 1 (pc' := 18) (lv' := [some (.ref 1021), some (.int s), some (.int y), some (.int t), none, none]) (st' := [.int 0, .int s, .ref 1021, .ref 1021]) (h1 := am_h w g) rfl ?_
    refine am_R.cv (a := 1021) (as' := [.int s, .int 0]) (r := [.ref 1021]) (v := some (.int 1)) (h1 := am_h w g) (pc' := 21) rfl rfl rfl rfl (am_wf 21 (by decide) h21) rfl rfl (aw_k133c d h21 s 0 (Or.inr (Or.inr rfl))) rfl ?_
    refine am_R.cv (a := 1021) (as' := [.int 1]) (r := []) (v := some (.int 1)) (h1 := am_h (am_pu w 21 (aw_c21 1 ty wr wd wt sn)) g) (pc' := 24) rfl rfl rfl rfl (am_wf 21 (by decide) h21) rfl rfl (aw_k99b (w := w) d h21 1 (by decide)) rfl ?_
    refine am_R.ites 1 (P := 1 = 0) (T := 29) (F := 27) (lv' := [some (.ref 1021), some (.int s), some (.int y), some (.int t), none, none]) (st' := []) (h1 := am_h (am_pu w 21 (aw_c21 1 ty wr wd wt sn)) g) rfl (fun b24 => ?_) (fun b24 => ?_)
    · exact absurd b24 (by decide)
    · refine am_R.nxs 1 (pc' := 28) (lv' := [some (.ref 1021), some (.int s), some (.int y), some (.int t), none, none]) (st' := [.int 0]) (h1 := am_h (am_pu w 21 (aw_c21 1 ty wr wd wt sn)) g) rfl ?_
      exact am_R.reti rfl rfl rfl
  · refine am_R.ites 3 (P := 24 ≤ y) (T := 17) (F := 13) (lv' := [some (.ref 1021), some (.int s), some (.int y), some (.int t), none, none]) (st' := [.int s, .ref 1021, .ref 1021]) (h1 := am_h w g) rfl (fun b10 => ?_) (fun b10 => ?_)
    · refine am_R.nxs 1 (pc' := 18) (lv' := [some (.ref 1021), some (.int s), some (.int y), some (.int t), none, none]) (st' := [.int 0, .int s, .ref 1021, .ref 1021]) (h1 := am_h w g) rfl ?_
      refine am_R.cv (a := 1021) (as' := [.int s, .int 0]) (r := [.ref 1021]) (v := some (.int 1)) (h1 := am_h w g) (pc' := 21) rfl rfl rfl rfl (am_wf 21 (by decide) h21) rfl rfl (aw_k133c d h21 s 0 (Or.inr (Or.inr rfl))) rfl ?_
      refine am_R.cv (a := 1021) (as' := [.int 1]) (r := []) (v := some (.int 1)) (h1 := am_h (am_pu w 21 (aw_c21 1 ty wr wd wt sn)) g) (pc' := 24) rfl rfl rfl rfl (am_wf 21 (by decide) h21) rfl rfl (aw_k99b (w := w) d h21 1 (by decide)) rfl ?_
      refine am_R.ites 1 (P := 1 = 0) (T := 29) (F := 27) (lv' := [some (.ref 1021), some (.int s), some (.int y), some (.int t), none, none]) (st' := []) (h1 := am_h (am_pu w 21 (aw_c21 1 ty wr wd wt sn)) g) rfl (fun b24 => ?_) (fun b24 => ?_)
      · exact absurd b24 (by decide)
      · refine am_R.nxs 1 (pc' := 28) (lv' := [some (.ref 1021), some (.int s), some (.int y), some (.int t), none, none]) (st' := [.int 0]) (h1 := am_h (am_pu w 21 (aw_c21 1 ty wr wd wt sn)) g) rfl ?_
        exact am_R.reti rfl rfl rfl
    · exact absurd hy (fun q => q.elim b4 (fun q => q (Int32.not_le.mp b10)))
set_option maxRecDepth 100000 in
theorem aw_o4 : aw_Op 288 := by
  intro d i w g x5 x6 xs hI h0 hi hx
  obtain ⟨tl, pl, sp, ft, wd, wt, sn, h1, h21, hT, hP, hS, hC, u, hO⟩ := hI
  by_cases hy1 : xs.getD (i + 2) 0 < 0 ∨ ¬ xs.getD (i + 2) 0 < 24
  · refine ⟨am_pu w 21 (aw_c21 1 (Int32.ofNat tl) (Int32.ofNat pl) wd wt sn), g ++ [.inl (8, [])], some (.int 1), some (.int 0), ⟨tl, pl, sp, 1, wd, wt, sn, h1, rfl, hT, hP, aw_Shs_up (by omega) hS, hC, u, hO⟩, h0, by simp, aw_sz1 rfl, fun o h' K => ?_⟩
    exact aw_L4 d i x5 x6 h0 hi hx (aw_W70t8 (d + 38) h1 _ _ _ (aw_k71e (d + 36) h1 _ hy1)) h0 h21 (aw_k134e (d + 38) h21 _ hy1) rfl (fun q => absurd q (by decide)) K
  by_cases hs : xs.getD (i + 1) 0 < 0 ∨ ¬ xs.getD (i + 1) 0 < 3
  · refine ⟨am_pu w 21 (aw_c21 1 (Int32.ofNat tl) (Int32.ofNat pl) wd wt sn), g ++ [.inl (8, [])], some (.int 1), some (.int 0), ⟨tl, pl, sp, 1, wd, wt, sn, h1, rfl, hT, hP, aw_Shs_up (by omega) hS, hC, u, hO⟩, h0, by simp, aw_sz1 rfl, fun o h' K => ?_⟩
    exact aw_L4 d i x5 x6 h0 hi hx (aw_W70t8 (d + 38) h1 _ _ _ (aw_k71c (d + 36) h1 (aw_bad24 hy1) _ hs)) h0 h21 (aw_k134c (d + 38) h21 (aw_bad24 hy1) _ (aw_gt2 hs)) rfl (fun q => absurd q (by decide)) K
  · obtain ⟨k, hk, hke⟩ := aw_sh3 hs
    obtain ⟨rs, r, to, ma, pi, br, bk, co, h4, hl, hr, hrs, ⟨m1, m2, m3, m4, m5, m6, m7, m8, m9, m10, m11, m12⟩, wc, bc, sc, ic, cc, dp, rd, ws, pc, bw, ⟨t1, t2, t3, t4, t5, t6, t7⟩, hsh⟩ := aw_get hS hk
    rcases hsh with ⟨hd, hm⟩ | ⟨hd, js, b, j1, j2, j3, j4, j5, j6, b1, b2, b3, b4, q1, q2, q3, q4, q5⟩
    · refine ⟨am_pu w 21 (aw_c21 2 (Int32.ofNat tl) (Int32.ofNat pl) wd wt sn), g ++ [.inl (9, [])], some (.int 2), some (.int 0), ⟨tl, pl, sp, 2, wd, wt, sn, h1, rfl, hT, hP, aw_Shs_up (by omega) hS, hC, u, hO⟩, h0, by simp, aw_sz1 rfl, fun o h' K => ?_⟩
      exact aw_L4 d i x5 x6 h0 hi hx (aw_W70t9 (d + 38) h1 _ _ _ (by rw [hke]; exact aw_k71b (d + 36) h1 h4 hl hk hr hrs t1 (aw_bad24 hy1) hd _)) h0 h21 (by rw [hke]; exact aw_k134b (d + 38) h21 m2 m8 hk (aw_bad24 hy1) hm _) rfl (fun q => absurd q (by decide)) K
    · obtain ⟨y, hyl, hye⟩ := aw_pl24 (aw_bad24 hy1)
      have e6 : aw_bitA (fun j => decide (pc.getD (y * 24 + j) 0 = xs.getD (i + 3) 0)) 24 = aw_bitO (fun j => decide (pi.getD (576 * k + 24 * y + j) 0 = xs.getD (i + 3) 0)) 24 := by
        rw [aw_bit_eq _ 24 (by decide)]
        exact aw_bitO_cong (fun j hj => by rw [j6 _ (by omega), show 576 * k + (y * 24 + j) = 576 * k + 24 * y + j by omega])
      refine ⟨am_pu (am_pu w 44 (.inr (3, [.long (aw_bitA (fun j => decide (pc.getD (y * 24 + j) 0 = xs.getD (i + 3) 0)) 24).toInt64]))) 21 (aw_c21 0 (Int32.ofNat tl) (Int32.ofNat pl) wd wt sn), g, some (.int 0), some (.int (aw_bitA (fun j => decide (pc.getD (y * 24 + j) 0 = xs.getD (i + 3) 0)) 24)), ⟨tl, pl, sp, 0, wd, wt, sn, h1, rfl, hT, hP, aw_Shs_up (by omega) (aw_Shs_up (by omega) hS), hC, _, rfl⟩, h0, by omega, by omega, fun o h' K => ?_⟩
      exact aw_L4 d i x5 x6 h0 hi hx (aw_W70a (d + 38) h1 _ _ _ (by rw [hke, hye]; exact aw_k71a (d + 36) h1 h4 hl hk hr hrs t1 t3 t6 hyl hd _) hO) h0 h21 (by rw [hke, hye, e6]; exact aw_k134a (w := am_pu w 44 _) (d + 38) h21 m2 m8 m3 m9 hk hyl (by rw [j4]; exact aw_nz j1 j2) _) rfl (fun _ => rfl) K
theorem aw_k75l {w : Nat → am_C} {g : am_H} (d : Nat) {r : Nat} (hr : r < 4) {pc : List Int32} (hP : w (7 + 4 * r) = am_I 0 pc) (hpl : pc.length = 576) {q : Nat} (hq : q < 4) {pd : List Int32} (hP1 : w (7 + 4 * q) = am_I 0 pd) (hpl1 : pd.length = 576) (x1 x2 : Option Value) : ∀ m i : Nat, i + m = 576 → am_R d 75 35 [some (.ref 1001), x1, x2, some (.ref (1007 + 4 * r)), some (.ref (1007 + 4 * q)), some (.int (aw_cnt (fun z => decide (¬ pc.getD z 0 = pd.getD z 0)) i)), some (.int (Int32.ofNat i))] [] (am_h w g) (.inl (some (.int (aw_cnt (fun z => decide (¬ pc.getD z 0 = pd.getD z 0)) 576)))) (am_h w g) := by
  intro m
  induction m with
  | zero =>
    intro i hi
    have hi9 : i = 576 := by omega
    subst hi9
    refine am_R.ites 3 (P := 576 ≤ Int32.ofNat 576) (T := 64) (F := 43) (lv' := [some (.ref 1001), x1, x2, some (.ref (1007 + 4 * r)), some (.ref (1007 + 4 * q)), some (.int (aw_cnt (fun z => decide (¬ pc.getD z 0 = pd.getD z 0)) 576)), some (.int (Int32.ofNat 576))]) (st' := []) (h1 := am_h w g) rfl (fun b40 => ?_) (fun b40 => ?_)
    · have b40 : 576 ≤ 576 := (am_leN (i := 576) (n := 576) (by omega) (by omega)).mp b40
      refine am_R.nxs 1 (pc' := 66) (lv' := [some (.ref 1001), x1, x2, some (.ref (1007 + 4 * r)), some (.ref (1007 + 4 * q)), some (.int (aw_cnt (fun z => decide (¬ pc.getD z 0 = pd.getD z 0)) 576)), some (.int (Int32.ofNat 576))]) (st' := [.int (aw_cnt (fun z => decide (¬ pc.getD z 0 = pd.getD z 0)) 576)]) (h1 := am_h w g) rfl ?_
      exact am_R.reti rfl rfl rfl
    · have b40 : ¬ 576 ≤ 576 := fun hq9 => b40 ((am_leN (i := 576) (n := 576) (by omega) (by omega)).mpr hq9)
      omega
  | succ m ih =>
    intro i hi
    refine am_R.ites 3 (P := 576 ≤ Int32.ofNat i) (T := 64) (F := 43) (lv' := [some (.ref 1001), x1, x2, some (.ref (1007 + 4 * r)), some (.ref (1007 + 4 * q)), some (.int (aw_cnt (fun z => decide (¬ pc.getD z 0 = pd.getD z 0)) i)), some (.int (Int32.ofNat i))]) (st' := []) (h1 := am_h w g) rfl (fun b40 => ?_) (fun b40 => ?_)
    · have b40 : 576 ≤ i := (am_leN (i := 576) (n := i) (by omega) (by omega)).mp b40
      omega
    · have b40 : ¬ 576 ≤ i := fun hq9 => b40 ((am_leN (i := 576) (n := i) (by omega) (by omega)).mpr hq9)
      refine am_R.nxs 2 (pc' := 46) (lv' := [some (.ref 1001), x1, x2, some (.ref (1007 + 4 * r)), some (.ref (1007 + 4 * q)), some (.int (aw_cnt (fun z => decide (¬ pc.getD z 0 = pd.getD z 0)) i)), some (.int (Int32.ofNat i))]) (st' := [.int (Int32.ofNat i), .ref (1007 + 4 * r)]) (h1 := am_h w g) rfl ?_
      refine am_R.ldi (i := i) (xs := pc) (pc' := 47) rfl (aw_at7 hr hP) (by omega) (by omega) rfl ?_
      refine am_R.nxs 2 (pc' := 51) (lv' := [some (.ref 1001), x1, x2, some (.ref (1007 + 4 * r)), some (.ref (1007 + 4 * q)), some (.int (aw_cnt (fun z => decide (¬ pc.getD z 0 = pd.getD z 0)) i)), some (.int (Int32.ofNat i))]) (st' := [.int (Int32.ofNat i), .ref (1007 + 4 * q), .int (pc.getD i 0)]) (h1 := am_h w g) rfl ?_
      refine am_R.ldi (i := i) (xs := pd) (pc' := 52) rfl (aw_at7 hq hP1) (by omega) (by omega) rfl ?_
      refine am_R.ites 1 (P := (pc.getD i 0) = (pd.getD i 0)) (T := 58) (F := 55) (lv' := [some (.ref 1001), x1, x2, some (.ref (1007 + 4 * r)), some (.ref (1007 + 4 * q)), some (.int (aw_cnt (fun z => decide (¬ pc.getD z 0 = pd.getD z 0)) i)), some (.int (Int32.ofNat i))]) (st' := []) (h1 := am_h w g) rfl (fun b52 => ?_) (fun b52 => ?_)
      · refine am_R.nxs 1 (pc' := 61) (lv' := [some (.ref 1001), x1, x2, some (.ref (1007 + 4 * r)), some (.ref (1007 + 4 * q)), some (.int (aw_cnt (fun z => decide (¬ pc.getD z 0 = pd.getD z 0)) i)), some (.int (Int32.ofNat i + 1))]) (st' := []) (h1 := am_h w g) rfl ?_
        rw [show (Int32.ofNat i + 1 : Int32) = Int32.ofNat (i + 1) from am_add i 1]
        refine am_R.nxs 1 (pc' := 35) (lv' := [some (.ref 1001), x1, x2, some (.ref (1007 + 4 * r)), some (.ref (1007 + 4 * q)), some (.int (aw_cnt (fun z => decide (¬ pc.getD z 0 = pd.getD z 0)) i)), some (.int (Int32.ofNat (i + 1)))]) (st' := []) (h1 := am_h w g) rfl ?_
        have e9 : (aw_cnt (fun z => decide (¬ pc.getD z 0 = pd.getD z 0)) (i + 1)) = (aw_cnt (fun z => decide (¬ pc.getD z 0 = pd.getD z 0)) i) := if_neg (by rw [decide_eq_true_eq]; first | exact b52 | exact fun q => q b52 | exact fun q => b52 q)
        rw [← e9]
        exact ih (i + 1) (by omega)
      · refine am_R.nxs 2 (pc' := 61) (lv' := [some (.ref 1001), x1, x2, some (.ref (1007 + 4 * r)), some (.ref (1007 + 4 * q)), some (.int ((aw_cnt (fun z => decide (¬ pc.getD z 0 = pd.getD z 0)) i) + 1)), some (.int (Int32.ofNat i + 1))]) (st' := []) (h1 := am_h w g) rfl ?_
        rw [show (Int32.ofNat i + 1 : Int32) = Int32.ofNat (i + 1) from am_add i 1]
        refine am_R.nxs 1 (pc' := 35) (lv' := [some (.ref 1001), x1, x2, some (.ref (1007 + 4 * r)), some (.ref (1007 + 4 * q)), some (.int ((aw_cnt (fun z => decide (¬ pc.getD z 0 = pd.getD z 0)) i) + 1)), some (.int (Int32.ofNat (i + 1)))]) (st' := []) (h1 := am_h w g) rfl ?_
        have e9 : (aw_cnt (fun z => decide (¬ pc.getD z 0 = pd.getD z 0)) (i + 1)) = (aw_cnt (fun z => decide (¬ pc.getD z 0 = pd.getD z 0)) i) + 1 := if_pos (decide_eq_true (by first | exact b52 | exact Decidable.not_not.mp b52))
        rw [← e9]
        exact ih (i + 1) (by omega)
theorem aw_k75a {w : Nat → am_C} {g : am_H} (d : Nat) {tl pl sp : Nat} (h1 : w 1 = aw_c1 tl pl sp) {rs : List Value} (h4 : w 4 = .inr (5, rs)) (hl : rs.length = 3) {k r : Nat} (hk : k < 3) (hr : r < 4) (hrs : rs[k]? = some (.ref (1005 + 4 * r))) {j q : Nat} (hj : j < 3) (hq : q < 4) (hqs : rs[j]? = some (.ref (1005 + 4 * q))) {wc bc sc ic cc dp rd : Int32} (hT : w (5 + 4 * r) = aw_cT r wc bc sc ic cc dp rd) {wc1 bc1 sc1 ic1 cc1 dp1 rd1 : Int32} (hT1 : w (5 + 4 * q) = aw_cT q wc1 bc1 sc1 ic1 cc1 dp1 rd1) {pc : List Int32} (hP : w (7 + 4 * r) = am_I 0 pc) (hpl : pc.length = 576) {pd : List Int32} (hP1 : w (7 + 4 * q) = am_I 0 pd) (hpl1 : pd.length = 576) (hd : rd = 1) (hd1 : rd1 = 1) : am_R (d + 2) 75 0 [some (.ref 1001), some (.int (Int32.ofNat k)), some (.int (Int32.ofNat j)), none, none, none, none] [] (am_h w g) (.inl (some (.int (aw_cnt (fun z => decide (¬ pc.getD z 0 = pd.getD z 0)) 576)))) (am_h w g) := by
  refine am_R.nxs 2 (pc' := 2) (lv' := [some (.ref 1001), some (.int (Int32.ofNat k)), some (.int (Int32.ofNat j)), none, none, none, none]) (st' := [.int (Int32.ofNat k), .ref 1001]) (h1 := am_h w g) rfl ?_
  refine am_R.cv (a := 1001) (as' := [.int (Int32.ofNat k)]) (r := []) (v := none) (h1 := am_h w g) (pc' := 5) rfl rfl rfl rfl (am_wf 1 (by decide) h1) rfl rfl (aw_k9a (d + 1) _ _ (aw_nn k) ((am_ltN (n := 3) (by omega) (by decide)).mpr hk)) rfl ?_
  refine am_R.nxs 2 (pc' := 7) (lv' := [some (.ref 1001), some (.int (Int32.ofNat k)), some (.int (Int32.ofNat j)), none, none, none, none]) (st' := [.int (Int32.ofNat j), .ref 1001]) (h1 := am_h w g) rfl ?_
  refine am_R.cv (a := 1001) (as' := [.int (Int32.ofNat j)]) (r := []) (v := none) (h1 := am_h w g) (pc' := 10) rfl rfl rfl rfl (am_wf 1 (by decide) h1) rfl rfl (aw_k9a (d + 1) _ _ (aw_nn j) ((am_ltN (n := 3) (by omega) (by decide)).mpr hj)) rfl ?_
  refine am_R.nxs 2 (pc' := 12) (lv' := [some (.ref 1001), some (.int (Int32.ofNat k)), some (.int (Int32.ofNat j)), none, none, none, none]) (st' := [.int (Int32.ofNat k), .ref 1001]) (h1 := am_h w g) rfl ?_
  refine am_R.cv (a := 1001) (as' := [.int (Int32.ofNat k)]) (r := []) (v := some (.ref (1005 + 4 * r))) (h1 := am_h w g) (pc' := 15) rfl rfl rfl rfl (am_wf 1 (by decide) h1) rfl rfl (aw_k69a d h1 h4 hl hk hr hrs hT hd) rfl ?_
  refine am_R.gf (pc' := 18) (v := .ref (1007 + 4 * r)) rfl (aw_at5 hr hT) rfl rfl rfl ?_
  refine am_R.nxs 3 (pc' := 21) (lv' := [some (.ref 1001), some (.int (Int32.ofNat k)), some (.int (Int32.ofNat j)), some (.ref (1007 + 4 * r)), none, none, none]) (st' := [.int (Int32.ofNat j), .ref 1001]) (h1 := am_h w g) rfl ?_
  refine am_R.cv (a := 1001) (as' := [.int (Int32.ofNat j)]) (r := []) (v := some (.ref (1005 + 4 * q))) (h1 := am_h w g) (pc' := 24) rfl rfl rfl rfl (am_wf 1 (by decide) h1) rfl rfl (aw_k69a d h1 h4 hl hj hq hqs hT1 hd1) rfl ?_
  refine am_R.gf (pc' := 27) (v := .ref (1007 + 4 * q)) rfl (aw_at5 hq hT1) rfl rfl rfl ?_
  refine am_R.nxs 5 (pc' := 35) (lv' := [some (.ref 1001), some (.int (Int32.ofNat k)), some (.int (Int32.ofNat j)), some (.ref (1007 + 4 * r)), some (.ref (1007 + 4 * q)), some (.int 0), some (.int 0)]) (st' := []) (h1 := am_h w g) rfl ?_
  exact aw_k75l (d + 2) hr hP hpl hq hP1 hpl1 _ _ 576 0 rfl
theorem aw_k75b {w : Nat → am_C} {g : am_H} (d : Nat) {tl pl sp : Nat} (h1 : w 1 = aw_c1 tl pl sp) {rs : List Value} (h4 : w 4 = .inr (5, rs)) (hl : rs.length = 3) {k r : Nat} (hk : k < 3) (hr : r < 4) (hrs : rs[k]? = some (.ref (1005 + 4 * r))) {wc bc sc ic cc dp rd : Int32} (hT : w (5 + 4 * r) = aw_cT r wc bc sc ic cc dp rd) {j : Nat} (hj : j < 3) (hd : rd = 0) : am_R (d + 2) 75 0 [some (.ref 1001), some (.int (Int32.ofNat k)), some (.int (Int32.ofNat j)), none, none, none, none] [] (am_h w g) (.inr (1000 + (am_h w g).length)) (am_h w (g ++ [.inl (9, [])])) := by
  refine am_R.nxs 2 (pc' := 2) (lv' := [some (.ref 1001), some (.int (Int32.ofNat k)), some (.int (Int32.ofNat j)), none, none, none, none]) (st' := [.int (Int32.ofNat k), .ref 1001]) (h1 := am_h w g) rfl ?_
  refine am_R.cv (a := 1001) (as' := [.int (Int32.ofNat k)]) (r := []) (v := none) (h1 := am_h w g) (pc' := 5) rfl rfl rfl rfl (am_wf 1 (by decide) h1) rfl rfl (aw_k9a (d + 1) _ _ (aw_nn k) ((am_ltN (n := 3) (by omega) (by decide)).mpr hk)) rfl ?_
  refine am_R.nxs 2 (pc' := 7) (lv' := [some (.ref 1001), some (.int (Int32.ofNat k)), some (.int (Int32.ofNat j)), none, none, none, none]) (st' := [.int (Int32.ofNat j), .ref 1001]) (h1 := am_h w g) rfl ?_
  refine am_R.cv (a := 1001) (as' := [.int (Int32.ofNat j)]) (r := []) (v := none) (h1 := am_h w g) (pc' := 10) rfl rfl rfl rfl (am_wf 1 (by decide) h1) rfl rfl (aw_k9a (d + 1) _ _ (aw_nn j) ((am_ltN (n := 3) (by omega) (by decide)).mpr hj)) rfl ?_
  refine am_R.nxs 2 (pc' := 12) (lv' := [some (.ref 1001), some (.int (Int32.ofNat k)), some (.int (Int32.ofNat j)), none, none, none, none]) (st' := [.int (Int32.ofNat k), .ref 1001]) (h1 := am_h w g) rfl ?_
  exact am_R.cvp (a := 1001) (as' := [.int (Int32.ofNat k)]) (r := []) rfl rfl rfl rfl (am_wf 1 (by decide) h1) rfl rfl (aw_k69b d h1 h4 hl hk hr hrs hT hd) rfl
theorem aw_k75f {w : Nat → am_C} {g : am_H} (d : Nat) {tl pl sp : Nat} (h1 : w 1 = aw_c1 tl pl sp) {rs : List Value} (h4 : w 4 = .inr (5, rs)) (hl : rs.length = 3) {k r : Nat} (hk : k < 3) (hr : r < 4) (hrs : rs[k]? = some (.ref (1005 + 4 * r))) {j q : Nat} (hj : j < 3) (hq : q < 4) (hqs : rs[j]? = some (.ref (1005 + 4 * q))) {wc bc sc ic cc dp rd : Int32} (hT : w (5 + 4 * r) = aw_cT r wc bc sc ic cc dp rd) {wc1 bc1 sc1 ic1 cc1 dp1 rd1 : Int32} (hT1 : w (5 + 4 * q) = aw_cT q wc1 bc1 sc1 ic1 cc1 dp1 rd1) (hd : rd = 1) (hd1 : rd1 = 0) : am_R (d + 2) 75 0 [some (.ref 1001), some (.int (Int32.ofNat k)), some (.int (Int32.ofNat j)), none, none, none, none] [] (am_h w g) (.inr (1000 + (am_h w g).length)) (am_h w (g ++ [.inl (9, [])])) := by
  refine am_R.nxs 2 (pc' := 2) (lv' := [some (.ref 1001), some (.int (Int32.ofNat k)), some (.int (Int32.ofNat j)), none, none, none, none]) (st' := [.int (Int32.ofNat k), .ref 1001]) (h1 := am_h w g) rfl ?_
  refine am_R.cv (a := 1001) (as' := [.int (Int32.ofNat k)]) (r := []) (v := none) (h1 := am_h w g) (pc' := 5) rfl rfl rfl rfl (am_wf 1 (by decide) h1) rfl rfl (aw_k9a (d + 1) _ _ (aw_nn k) ((am_ltN (n := 3) (by omega) (by decide)).mpr hk)) rfl ?_
  refine am_R.nxs 2 (pc' := 7) (lv' := [some (.ref 1001), some (.int (Int32.ofNat k)), some (.int (Int32.ofNat j)), none, none, none, none]) (st' := [.int (Int32.ofNat j), .ref 1001]) (h1 := am_h w g) rfl ?_
  refine am_R.cv (a := 1001) (as' := [.int (Int32.ofNat j)]) (r := []) (v := none) (h1 := am_h w g) (pc' := 10) rfl rfl rfl rfl (am_wf 1 (by decide) h1) rfl rfl (aw_k9a (d + 1) _ _ (aw_nn j) ((am_ltN (n := 3) (by omega) (by decide)).mpr hj)) rfl ?_
  refine am_R.nxs 2 (pc' := 12) (lv' := [some (.ref 1001), some (.int (Int32.ofNat k)), some (.int (Int32.ofNat j)), none, none, none, none]) (st' := [.int (Int32.ofNat k), .ref 1001]) (h1 := am_h w g) rfl ?_
  refine am_R.cv (a := 1001) (as' := [.int (Int32.ofNat k)]) (r := []) (v := some (.ref (1005 + 4 * r))) (h1 := am_h w g) (pc' := 15) rfl rfl rfl rfl (am_wf 1 (by decide) h1) rfl rfl (aw_k69a d h1 h4 hl hk hr hrs hT hd) rfl ?_
  refine am_R.gf (pc' := 18) (v := .ref (1007 + 4 * r)) rfl (aw_at5 hr hT) rfl rfl rfl ?_
  refine am_R.nxs 3 (pc' := 21) (lv' := [some (.ref 1001), some (.int (Int32.ofNat k)), some (.int (Int32.ofNat j)), some (.ref (1007 + 4 * r)), none, none, none]) (st' := [.int (Int32.ofNat j), .ref 1001]) (h1 := am_h w g) rfl ?_
  exact am_R.cvp (a := 1001) (as' := [.int (Int32.ofNat j)]) (r := []) rfl rfl rfl rfl (am_wf 1 (by decide) h1) rfl rfl (aw_k69b d h1 h4 hl hj hq hqs hT1 hd1) rfl
theorem aw_k75c {w : Nat → am_C} {g : am_H} (d : Nat) {tl pl sp : Nat} (h1 : w 1 = aw_c1 tl pl sp) {s : Int32} (t : Int32) (hs : s < 0 ∨ ¬ s < 3) : am_R (d + 2) 75 0 [some (.ref 1001), some (.int s), some (.int t), none, none, none, none] [] (am_h w g) (.inr (1000 + (am_h w g).length)) (am_h w (g ++ [.inl (8, [])])) := by
  refine am_R.nxs 2 (pc' := 2) (lv' := [some (.ref 1001), some (.int s), some (.int t), none, none, none, none]) (st' := [.int s, .ref 1001]) (h1 := am_h w g) rfl ?_
  exact am_R.cvp (a := 1001) (as' := [.int s]) (r := []) rfl rfl rfl rfl (am_wf 1 (by decide) h1) rfl rfl (aw_k9b (d + 1) _ s hs) rfl
theorem aw_k75e {w : Nat → am_C} {g : am_H} (d : Nat) {tl pl sp : Nat} (h1 : w 1 = aw_c1 tl pl sp) {k : Nat} (hk : k < 3) {t : Int32} (ht : t < 0 ∨ ¬ t < 3) : am_R (d + 2) 75 0 [some (.ref 1001), some (.int (Int32.ofNat k)), some (.int t), none, none, none, none] [] (am_h w g) (.inr (1000 + (am_h w g).length)) (am_h w (g ++ [.inl (8, [])])) := by
  refine am_R.nxs 2 (pc' := 2) (lv' := [some (.ref 1001), some (.int (Int32.ofNat k)), some (.int t), none, none, none, none]) (st' := [.int (Int32.ofNat k), .ref 1001]) (h1 := am_h w g) rfl ?_
  refine am_R.cv (a := 1001) (as' := [.int (Int32.ofNat k)]) (r := []) (v := none) (h1 := am_h w g) (pc' := 5) rfl rfl rfl rfl (am_wf 1 (by decide) h1) rfl rfl (aw_k9a (d + 1) _ _ (aw_nn k) ((am_ltN (n := 3) (by omega) (by decide)).mpr hk)) rfl ?_
  refine am_R.nxs 2 (pc' := 7) (lv' := [some (.ref 1001), some (.int (Int32.ofNat k)), some (.int t), none, none, none, none]) (st' := [.int t, .ref 1001]) (h1 := am_h w g) rfl ?_
  exact am_R.cvp (a := 1001) (as' := [.int t]) (r := []) rfl rfl rfl rfl (am_wf 1 (by decide) h1) rfl rfl (aw_k9b (d + 1) _ t ht) rfl
theorem aw_k137a {w : Nat → am_C} {g : am_H} (d : Nat) {ft ty wr wd wt sn : Int32} (h21 : w 21 = aw_c21 ft ty wr wd wt sn) {ma : List Int32} (h27 : w 27 = am_I 0 ma) (l27 : ma.length = 3) {k : Nat} (hk : k < 3) {j : Nat} (hj : j < 3) (hm : ¬ ma.getD k 0 = 0) (hm1 : ¬ ma.getD j 0 = 0) : am_R d 137 0 [some (.ref 1021), some (.int (Int32.ofNat k)), some (.int (Int32.ofNat j)), none] [] (am_h w g) (.inl (some (.int 0))) (am_h w g) := by
  refine am_R.ites 2 (P := Int32.ofNat k < 0) (T := 22) (F := 4) (lv' := [some (.ref 1021), some (.int (Int32.ofNat k)), some (.int (Int32.ofNat j)), none]) (st' := []) (h1 := am_h w g) rfl (fun b1 => ?_) (fun b1 => ?_)
  · exact absurd b1 (aw_nn k)
  · refine am_R.ites 3 (P := 3 ≤ Int32.ofNat k) (T := 22) (F := 9) (lv' := [some (.ref 1021), some (.int (Int32.ofNat k)), some (.int (Int32.ofNat j)), none]) (st' := []) (h1 := am_h w g) rfl (fun b6 => ?_) (fun b6 => ?_)
    · have b6 : 3 ≤ k := (am_leN (i := 3) (n := k) (by omega) (by omega)).mp b6
      omega
    · have b6 : ¬ 3 ≤ k := fun hq9 => b6 ((am_leN (i := 3) (n := k) (by omega) (by omega)).mpr hq9)
      refine am_R.ites 2 (P := Int32.ofNat j < 0) (T := 22) (F := 13) (lv' := [some (.ref 1021), some (.int (Int32.ofNat k)), some (.int (Int32.ofNat j)), none]) (st' := []) (h1 := am_h w g) rfl (fun b10 => ?_) (fun b10 => ?_)
      · exact absurd b10 (aw_nn j)
      · refine am_R.ites 3 (P := 3 ≤ Int32.ofNat j) (T := 22) (F := 18) (lv' := [some (.ref 1021), some (.int (Int32.ofNat k)), some (.int (Int32.ofNat j)), none]) (st' := []) (h1 := am_h w g) rfl (fun b15 => ?_) (fun b15 => ?_)
        · have b15 : 3 ≤ j := (am_leN (i := 3) (n := j) (by omega) (by omega)).mp b15
          omega
        · have b15 : ¬ 3 ≤ j := fun hq9 => b15 ((am_leN (i := 3) (n := j) (by omega) (by omega)).mpr hq9)
          refine am_R.ites 5 (P := ¬ 1 = 0) (T := 32) (F := 28) (lv' := [some (.ref 1021), some (.int (Int32.ofNat k)), some (.int (Int32.ofNat j)), some (.int 1)]) (st' := []) (h1 := am_h w g) rfl (fun b25 => ?_) (fun b25 => ?_)
          · refine am_R.nxs 1 (pc' := 33) (lv' := [some (.ref 1021), some (.int (Int32.ofNat k)), some (.int (Int32.ofNat j)), some (.int 1)]) (st' := [.ref 1021]) (h1 := am_h w g) rfl ?_
            refine am_R.gf (pc' := 36) (v := .ref 1027) rfl (am_wf 21 (by decide) h21) rfl rfl rfl ?_
            refine am_R.nxs 1 (pc' := 37) (lv' := [some (.ref 1021), some (.int (Int32.ofNat k)), some (.int (Int32.ofNat j)), some (.int 1)]) (st' := [.int (Int32.ofNat k), .ref 1027]) (h1 := am_h w g) rfl ?_
            refine am_R.ldi (i := k) (xs := ma) (pc' := 38) rfl (am_wf 27 (by decide) h27) (by omega) (by omega) rfl ?_
            refine am_R.ites 1 (P := (ma.getD k 0) = 0) (T := 50) (F := 41) (lv' := [some (.ref 1021), some (.int (Int32.ofNat k)), some (.int (Int32.ofNat j)), some (.int 1)]) (st' := []) (h1 := am_h w g) rfl (fun b38 => ?_) (fun b38 => ?_)
            · exact absurd b38 hm
            · refine am_R.nxs 1 (pc' := 42) (lv' := [some (.ref 1021), some (.int (Int32.ofNat k)), some (.int (Int32.ofNat j)), some (.int 1)]) (st' := [.ref 1021]) (h1 := am_h w g) rfl ?_
              refine am_R.gf (pc' := 45) (v := .ref 1027) rfl (am_wf 21 (by decide) h21) rfl rfl rfl ?_
              refine am_R.nxs 1 (pc' := 46) (lv' := [some (.ref 1021), some (.int (Int32.ofNat k)), some (.int (Int32.ofNat j)), some (.int 1)]) (st' := [.int (Int32.ofNat j), .ref 1027]) (h1 := am_h w g) rfl ?_
              refine am_R.ldi (i := j) (xs := ma) (pc' := 47) rfl (am_wf 27 (by decide) h27) (by omega) (by omega) rfl ?_
              refine am_R.ites 1 (P := ¬ (ma.getD j 0) = 0) (T := 54) (F := 50) (lv' := [some (.ref 1021), some (.int (Int32.ofNat k)), some (.int (Int32.ofNat j)), some (.int 1)]) (st' := []) (h1 := am_h w g) rfl (fun b47 => ?_) (fun b47 => ?_)
              · refine am_R.nxs 1 (pc' := 55) (lv' := [some (.ref 1021), some (.int (Int32.ofNat k)), some (.int (Int32.ofNat j)), some (.int 1)]) (st' := [.int 0]) (h1 := am_h w g) rfl ?_
                exact am_R.reti rfl rfl rfl
              · exact absurd hm1 b47
          · exact absurd (by decide) b25
theorem aw_k137b {w : Nat → am_C} {g : am_H} (d : Nat) {ft ty wr wd wt sn : Int32} (h21 : w 21 = aw_c21 ft ty wr wd wt sn) {ma : List Int32} (h27 : w 27 = am_I 0 ma) (l27 : ma.length = 3) {k : Nat} (hk : k < 3) {j : Nat} (hj : j < 3) (hm : ma.getD k 0 = 0) : am_R d 137 0 [some (.ref 1021), some (.int (Int32.ofNat k)), some (.int (Int32.ofNat j)), none] [] (am_h w g) (.inl (some (.int 2))) (am_h w g) := by
  refine am_R.ites 2 (P := Int32.ofNat k < 0) (T := 22) (F := 4) (lv' := [some (.ref 1021), some (.int (Int32.ofNat k)), some (.int (Int32.ofNat j)), none]) (st' := []) (h1 := am_h w g) rfl (fun b1 => ?_) (fun b1 => ?_)
  · exact absurd b1 (aw_nn k)
  · refine am_R.ites 3 (P := 3 ≤ Int32.ofNat k) (T := 22) (F := 9) (lv' := [some (.ref 1021), some (.int (Int32.ofNat k)), some (.int (Int32.ofNat j)), none]) (st' := []) (h1 := am_h w g) rfl (fun b6 => ?_) (fun b6 => ?_)
    · have b6 : 3 ≤ k := (am_leN (i := 3) (n := k) (by omega) (by omega)).mp b6
      omega
    · have b6 : ¬ 3 ≤ k := fun hq9 => b6 ((am_leN (i := 3) (n := k) (by omega) (by omega)).mpr hq9)
      refine am_R.ites 2 (P := Int32.ofNat j < 0) (T := 22) (F := 13) (lv' := [some (.ref 1021), some (.int (Int32.ofNat k)), some (.int (Int32.ofNat j)), none]) (st' := []) (h1 := am_h w g) rfl (fun b10 => ?_) (fun b10 => ?_)
      · exact absurd b10 (aw_nn j)
      · refine am_R.ites 3 (P := 3 ≤ Int32.ofNat j) (T := 22) (F := 18) (lv' := [some (.ref 1021), some (.int (Int32.ofNat k)), some (.int (Int32.ofNat j)), none]) (st' := []) (h1 := am_h w g) rfl (fun b15 => ?_) (fun b15 => ?_)
        · have b15 : 3 ≤ j := (am_leN (i := 3) (n := j) (by omega) (by omega)).mp b15
          omega
        · have b15 : ¬ 3 ≤ j := fun hq9 => b15 ((am_leN (i := 3) (n := j) (by omega) (by omega)).mpr hq9)
          refine am_R.ites 5 (P := ¬ 1 = 0) (T := 32) (F := 28) (lv' := [some (.ref 1021), some (.int (Int32.ofNat k)), some (.int (Int32.ofNat j)), some (.int 1)]) (st' := []) (h1 := am_h w g) rfl (fun b25 => ?_) (fun b25 => ?_)
          · refine am_R.nxs 1 (pc' := 33) (lv' := [some (.ref 1021), some (.int (Int32.ofNat k)), some (.int (Int32.ofNat j)), some (.int 1)]) (st' := [.ref 1021]) (h1 := am_h w g) rfl ?_
            refine am_R.gf (pc' := 36) (v := .ref 1027) rfl (am_wf 21 (by decide) h21) rfl rfl rfl ?_
            refine am_R.nxs 1 (pc' := 37) (lv' := [some (.ref 1021), some (.int (Int32.ofNat k)), some (.int (Int32.ofNat j)), some (.int 1)]) (st' := [.int (Int32.ofNat k), .ref 1027]) (h1 := am_h w g) rfl ?_
            refine am_R.ldi (i := k) (xs := ma) (pc' := 38) rfl (am_wf 27 (by decide) h27) (by omega) (by omega) rfl ?_
            refine am_R.ites 1 (P := (ma.getD k 0) = 0) (T := 50) (F := 41) (lv' := [some (.ref 1021), some (.int (Int32.ofNat k)), some (.int (Int32.ofNat j)), some (.int 1)]) (st' := []) (h1 := am_h w g) rfl (fun b38 => ?_) (fun b38 => ?_)
            · refine am_R.nxs 2 (pc' := 55) (lv' := [some (.ref 1021), some (.int (Int32.ofNat k)), some (.int (Int32.ofNat j)), some (.int 1)]) (st' := [.int 2]) (h1 := am_h w g) rfl ?_
              exact am_R.reti rfl rfl rfl
            · exact absurd hm b38
          · exact absurd (by decide) b25
theorem aw_k137f {w : Nat → am_C} {g : am_H} (d : Nat) {ft ty wr wd wt sn : Int32} (h21 : w 21 = aw_c21 ft ty wr wd wt sn) {ma : List Int32} (h27 : w 27 = am_I 0 ma) (l27 : ma.length = 3) {k : Nat} (hk : k < 3) {j : Nat} (hj : j < 3) (hm : ¬ ma.getD k 0 = 0) (hm1 : ma.getD j 0 = 0) : am_R d 137 0 [some (.ref 1021), some (.int (Int32.ofNat k)), some (.int (Int32.ofNat j)), none] [] (am_h w g) (.inl (some (.int 2))) (am_h w g) := by
  refine am_R.ites 2 (P := Int32.ofNat k < 0) (T := 22) (F := 4) (lv' := [some (.ref 1021), some (.int (Int32.ofNat k)), some (.int (Int32.ofNat j)), none]) (st' := []) (h1 := am_h w g) rfl (fun b1 => ?_) (fun b1 => ?_)
  · exact absurd b1 (aw_nn k)
  · refine am_R.ites 3 (P := 3 ≤ Int32.ofNat k) (T := 22) (F := 9) (lv' := [some (.ref 1021), some (.int (Int32.ofNat k)), some (.int (Int32.ofNat j)), none]) (st' := []) (h1 := am_h w g) rfl (fun b6 => ?_) (fun b6 => ?_)
    · have b6 : 3 ≤ k := (am_leN (i := 3) (n := k) (by omega) (by omega)).mp b6
      omega
    · have b6 : ¬ 3 ≤ k := fun hq9 => b6 ((am_leN (i := 3) (n := k) (by omega) (by omega)).mpr hq9)
      refine am_R.ites 2 (P := Int32.ofNat j < 0) (T := 22) (F := 13) (lv' := [some (.ref 1021), some (.int (Int32.ofNat k)), some (.int (Int32.ofNat j)), none]) (st' := []) (h1 := am_h w g) rfl (fun b10 => ?_) (fun b10 => ?_)
      · exact absurd b10 (aw_nn j)
      · refine am_R.ites 3 (P := 3 ≤ Int32.ofNat j) (T := 22) (F := 18) (lv' := [some (.ref 1021), some (.int (Int32.ofNat k)), some (.int (Int32.ofNat j)), none]) (st' := []) (h1 := am_h w g) rfl (fun b15 => ?_) (fun b15 => ?_)
        · have b15 : 3 ≤ j := (am_leN (i := 3) (n := j) (by omega) (by omega)).mp b15
          omega
        · have b15 : ¬ 3 ≤ j := fun hq9 => b15 ((am_leN (i := 3) (n := j) (by omega) (by omega)).mpr hq9)
          refine am_R.ites 5 (P := ¬ 1 = 0) (T := 32) (F := 28) (lv' := [some (.ref 1021), some (.int (Int32.ofNat k)), some (.int (Int32.ofNat j)), some (.int 1)]) (st' := []) (h1 := am_h w g) rfl (fun b25 => ?_) (fun b25 => ?_)
          · refine am_R.nxs 1 (pc' := 33) (lv' := [some (.ref 1021), some (.int (Int32.ofNat k)), some (.int (Int32.ofNat j)), some (.int 1)]) (st' := [.ref 1021]) (h1 := am_h w g) rfl ?_
            refine am_R.gf (pc' := 36) (v := .ref 1027) rfl (am_wf 21 (by decide) h21) rfl rfl rfl ?_
            refine am_R.nxs 1 (pc' := 37) (lv' := [some (.ref 1021), some (.int (Int32.ofNat k)), some (.int (Int32.ofNat j)), some (.int 1)]) (st' := [.int (Int32.ofNat k), .ref 1027]) (h1 := am_h w g) rfl ?_
            refine am_R.ldi (i := k) (xs := ma) (pc' := 38) rfl (am_wf 27 (by decide) h27) (by omega) (by omega) rfl ?_
            refine am_R.ites 1 (P := (ma.getD k 0) = 0) (T := 50) (F := 41) (lv' := [some (.ref 1021), some (.int (Int32.ofNat k)), some (.int (Int32.ofNat j)), some (.int 1)]) (st' := []) (h1 := am_h w g) rfl (fun b38 => ?_) (fun b38 => ?_)
            · exact absurd b38 hm
            · refine am_R.nxs 1 (pc' := 42) (lv' := [some (.ref 1021), some (.int (Int32.ofNat k)), some (.int (Int32.ofNat j)), some (.int 1)]) (st' := [.ref 1021]) (h1 := am_h w g) rfl ?_
              refine am_R.gf (pc' := 45) (v := .ref 1027) rfl (am_wf 21 (by decide) h21) rfl rfl rfl ?_
              refine am_R.nxs 1 (pc' := 46) (lv' := [some (.ref 1021), some (.int (Int32.ofNat k)), some (.int (Int32.ofNat j)), some (.int 1)]) (st' := [.int (Int32.ofNat j), .ref 1027]) (h1 := am_h w g) rfl ?_
              refine am_R.ldi (i := j) (xs := ma) (pc' := 47) rfl (am_wf 27 (by decide) h27) (by omega) (by omega) rfl ?_
              refine am_R.ites 1 (P := ¬ (ma.getD j 0) = 0) (T := 54) (F := 50) (lv' := [some (.ref 1021), some (.int (Int32.ofNat k)), some (.int (Int32.ofNat j)), some (.int 1)]) (st' := []) (h1 := am_h w g) rfl (fun b47 => ?_) (fun b47 => ?_)
              · exact absurd hm1 b47
              · refine am_R.nxs 2 (pc' := 55) (lv' := [some (.ref 1021), some (.int (Int32.ofNat k)), some (.int (Int32.ofNat j)), some (.int 1)]) (st' := [.int 2]) (h1 := am_h w g) rfl ?_
                exact am_R.reti rfl rfl rfl
          · exact absurd (by decide) b25
theorem aw_k137c {w : Nat → am_C} {g : am_H} (d : Nat) {ft ty wr wd wt sn : Int32} (h21 : w 21 = aw_c21 ft ty wr wd wt sn) {s t : Int32} (hs : (s < 0 ∨ ¬ s < 3) ∨ (t < 0 ∨ ¬ t < 3)) : am_R d 137 0 [some (.ref 1021), some (.int s), some (.int t), none] [] (am_h w g) (.inl (some (.int 1))) (am_h w g) := by
  refine am_R.ites 2 (P := s < 0) (T := 22) (F := 4) (lv' := [some (.ref 1021), some (.int s), some (.int t), none]) (st' := []) (h1 := am_h w g) rfl (fun b1 => ?_) (fun b1 => ?_)
  · refine am_R.ites 4 (P := ¬ 0 = 0) (T := 32) (F := 28) (lv' := [some (.ref 1021), some (.int s), some (.int t), some (.int 0)]) (st' := []) (h1 := am_h w g) rfl (fun b25 => ?_) (fun b25 => ?_)
    · exact absurd b25 (by decide)
    · refine am_R.nxs 2 (pc' := 55) (lv' := [some (.ref 1021), some (.int s), some (.int t), some (.int 0)]) (st' := [.int 1]) (h1 := am_h w g) rfl ?_
      exact am_R.reti rfl rfl rfl
  · refine am_R.ites 3 (P := 3 ≤ s) (T := 22) (F := 9) (lv' := [some (.ref 1021), some (.int s), some (.int t), none]) (st' := []) (h1 := am_h w g) rfl (fun b6 => ?_) (fun b6 => ?_)
    · refine am_R.ites 4 (P := ¬ 0 = 0) (T := 32) (F := 28) (lv' := [some (.ref 1021), some (.int s), some (.int t), some (.int 0)]) (st' := []) (h1 := am_h w g) rfl (fun b25 => ?_) (fun b25 => ?_)
      · exact absurd b25 (by decide)
      · refine am_R.nxs 2 (pc' := 55) (lv' := [some (.ref 1021), some (.int s), some (.int t), some (.int 0)]) (st' := [.int 1]) (h1 := am_h w g) rfl ?_
        exact am_R.reti rfl rfl rfl
    · refine am_R.ites 2 (P := t < 0) (T := 22) (F := 13) (lv' := [some (.ref 1021), some (.int s), some (.int t), none]) (st' := []) (h1 := am_h w g) rfl (fun b10 => ?_) (fun b10 => ?_)
      · refine am_R.ites 4 (P := ¬ 0 = 0) (T := 32) (F := 28) (lv' := [some (.ref 1021), some (.int s), some (.int t), some (.int 0)]) (st' := []) (h1 := am_h w g) rfl (fun b25 => ?_) (fun b25 => ?_)
        · exact absurd b25 (by decide)
        · refine am_R.nxs 2 (pc' := 55) (lv' := [some (.ref 1021), some (.int s), some (.int t), some (.int 0)]) (st' := [.int 1]) (h1 := am_h w g) rfl ?_
          exact am_R.reti rfl rfl rfl
      · refine am_R.ites 3 (P := 3 ≤ t) (T := 22) (F := 18) (lv' := [some (.ref 1021), some (.int s), some (.int t), none]) (st' := []) (h1 := am_h w g) rfl (fun b15 => ?_) (fun b15 => ?_)
        · refine am_R.ites 4 (P := ¬ 0 = 0) (T := 32) (F := 28) (lv' := [some (.ref 1021), some (.int s), some (.int t), some (.int 0)]) (st' := []) (h1 := am_h w g) rfl (fun b25 => ?_) (fun b25 => ?_)
          · exact absurd b25 (by decide)
          · refine am_R.nxs 2 (pc' := 55) (lv' := [some (.ref 1021), some (.int s), some (.int t), some (.int 0)]) (st' := [.int 1]) (h1 := am_h w g) rfl ?_
            exact am_R.reti rfl rfl rfl
        · exact absurd hs (fun q => q.elim (fun q => q.elim b1 (fun q => q (Int32.not_le.mp b6))) (fun q => q.elim b10 (fun q => q (Int32.not_le.mp b15))))
theorem aw_k136l {w : Nat → am_C} {g : am_H} (d : Nat) {ft ty wr wd wt sn : Int32} (h21 : w 21 = aw_c21 ft ty wr wd wt sn) {pi : List Int32} (h28 : w 28 = am_I 0 pi) (l28 : pi.length = 1728) {k : Nat} (hk : k < 3) {j : Nat} (hj : j < 3) : ∀ m i : Nat, i + m = 576 → am_R d 136 20 [some (.ref 1021), some (.int (Int32.ofNat k)), some (.int (Int32.ofNat j)), some (.int (aw_cnt (fun z => decide (¬ pi.getD (576 * k + z) 0 = pi.getD (576 * j + z) 0)) i)), some (.int (Int32.ofNat i))] [] (am_h w g) (.inl (some (.int (aw_cnt (fun z => decide (¬ pi.getD (576 * k + z) 0 = pi.getD (576 * j + z) 0)) 576)))) (am_h w g) := by
  intro m
  induction m with
  | zero =>
    intro i hi
    have hi9 : i = 576 := by omega
    subst hi9
    refine am_R.ites 3 (P := 576 ≤ Int32.ofNat 576) (T := 71) (F := 28) (lv' := [some (.ref 1021), some (.int (Int32.ofNat k)), some (.int (Int32.ofNat j)), some (.int (aw_cnt (fun z => decide (¬ pi.getD (576 * k + z) 0 = pi.getD (576 * j + z) 0)) 576)), some (.int (Int32.ofNat 576))]) (st' := []) (h1 := am_h w g) rfl (fun b25 => ?_) (fun b25 => ?_)
    · have b25 : 576 ≤ 576 := (am_leN (i := 576) (n := 576) (by omega) (by omega)).mp b25
      refine am_R.nxs 1 (pc' := 72) (lv' := [some (.ref 1021), some (.int (Int32.ofNat k)), some (.int (Int32.ofNat j)), some (.int (aw_cnt (fun z => decide (¬ pi.getD (576 * k + z) 0 = pi.getD (576 * j + z) 0)) 576)), some (.int (Int32.ofNat 576))]) (st' := [.int (aw_cnt (fun z => decide (¬ pi.getD (576 * k + z) 0 = pi.getD (576 * j + z) 0)) 576)]) (h1 := am_h w g) rfl ?_
      exact am_R.reti rfl rfl rfl
    · have b25 : ¬ 576 ≤ 576 := fun hq9 => b25 ((am_leN (i := 576) (n := 576) (by omega) (by omega)).mpr hq9)
      omega
  | succ m ih =>
    intro i hi
    refine am_R.ites 3 (P := 576 ≤ Int32.ofNat i) (T := 71) (F := 28) (lv' := [some (.ref 1021), some (.int (Int32.ofNat k)), some (.int (Int32.ofNat j)), some (.int (aw_cnt (fun z => decide (¬ pi.getD (576 * k + z) 0 = pi.getD (576 * j + z) 0)) i)), some (.int (Int32.ofNat i))]) (st' := []) (h1 := am_h w g) rfl (fun b25 => ?_) (fun b25 => ?_)
    · have b25 : 576 ≤ i := (am_leN (i := 576) (n := i) (by omega) (by omega)).mp b25
      omega
    · have b25 : ¬ 576 ≤ i := fun hq9 => b25 ((am_leN (i := 576) (n := i) (by omega) (by omega)).mpr hq9)
      refine am_R.nxs 1 (pc' := 29) (lv' := [some (.ref 1021), some (.int (Int32.ofNat k)), some (.int (Int32.ofNat j)), some (.int (aw_cnt (fun z => decide (¬ pi.getD (576 * k + z) 0 = pi.getD (576 * j + z) 0)) i)), some (.int (Int32.ofNat i))]) (st' := [.ref 1021]) (h1 := am_h w g) rfl ?_
      refine am_R.gf (pc' := 32) (v := .ref 1028) rfl (am_wf 21 (by decide) h21) rfl rfl rfl ?_
      refine am_R.nxs 3 (pc' := 37) (lv' := [some (.ref 1021), some (.int (Int32.ofNat k)), some (.int (Int32.ofNat j)), some (.int (aw_cnt (fun z => decide (¬ pi.getD (576 * k + z) 0 = pi.getD (576 * j + z) 0)) i)), some (.int (Int32.ofNat i))]) (st' := [.int (576 * Int32.ofNat k), .ref 1028]) (h1 := am_h w g) rfl ?_
      rw [show (576 * Int32.ofNat k : Int32) = Int32.ofNat (576 * k) from am_mul 576 k]
      refine am_R.nxs 2 (pc' := 40) (lv' := [some (.ref 1021), some (.int (Int32.ofNat k)), some (.int (Int32.ofNat j)), some (.int (aw_cnt (fun z => decide (¬ pi.getD (576 * k + z) 0 = pi.getD (576 * j + z) 0)) i)), some (.int (Int32.ofNat i))]) (st' := [.int (Int32.ofNat (576 * k) + Int32.ofNat i), .ref 1028]) (h1 := am_h w g) rfl ?_
      rw [show (Int32.ofNat (576 * k) + Int32.ofNat i : Int32) = Int32.ofNat ((576 * k) + i) from am_add (576 * k) i]
      refine am_R.ldi (i := ((576 * k) + i)) (xs := pi) (pc' := 41) rfl (am_wf 28 (by decide) h28) (by omega) (by omega) rfl ?_
      refine am_R.nxs 1 (pc' := 42) (lv' := [some (.ref 1021), some (.int (Int32.ofNat k)), some (.int (Int32.ofNat j)), some (.int (aw_cnt (fun z => decide (¬ pi.getD (576 * k + z) 0 = pi.getD (576 * j + z) 0)) i)), some (.int (Int32.ofNat i))]) (st' := [.ref 1021, .int (pi.getD ((576 * k) + i) 0)]) (h1 := am_h w g) rfl ?_
      refine am_R.gf (pc' := 45) (v := .ref 1028) rfl (am_wf 21 (by decide) h21) rfl rfl rfl ?_
      refine am_R.nxs 3 (pc' := 50) (lv' := [some (.ref 1021), some (.int (Int32.ofNat k)), some (.int (Int32.ofNat j)), some (.int (aw_cnt (fun z => decide (¬ pi.getD (576 * k + z) 0 = pi.getD (576 * j + z) 0)) i)), some (.int (Int32.ofNat i))]) (st' := [.int (576 * Int32.ofNat j), .ref 1028, .int (pi.getD ((576 * k) + i) 0)]) (h1 := am_h w g) rfl ?_
      rw [show (576 * Int32.ofNat j : Int32) = Int32.ofNat (576 * j) from am_mul 576 j]
      refine am_R.nxs 2 (pc' := 53) (lv' := [some (.ref 1021), some (.int (Int32.ofNat k)), some (.int (Int32.ofNat j)), some (.int (aw_cnt (fun z => decide (¬ pi.getD (576 * k + z) 0 = pi.getD (576 * j + z) 0)) i)), some (.int (Int32.ofNat i))]) (st' := [.int (Int32.ofNat (576 * j) + Int32.ofNat i), .ref 1028, .int (pi.getD ((576 * k) + i) 0)]) (h1 := am_h w g) rfl ?_
      rw [show (Int32.ofNat (576 * j) + Int32.ofNat i : Int32) = Int32.ofNat ((576 * j) + i) from am_add (576 * j) i]
      refine am_R.ldi (i := ((576 * j) + i)) (xs := pi) (pc' := 54) rfl (am_wf 28 (by decide) h28) (by omega) (by omega) rfl ?_
      refine am_R.ites 1 (P := (pi.getD ((576 * k) + i) 0) = (pi.getD ((576 * j) + i) 0)) (T := 63) (F := 57) (lv' := [some (.ref 1021), some (.int (Int32.ofNat k)), some (.int (Int32.ofNat j)), some (.int (aw_cnt (fun z => decide (¬ pi.getD (576 * k + z) 0 = pi.getD (576 * j + z) 0)) i)), some (.int (Int32.ofNat i))]) (st' := []) (h1 := am_h w g) rfl (fun b54 => ?_) (fun b54 => ?_)
      · refine am_R.nxs 3 (pc' := 68) (lv' := [some (.ref 1021), some (.int (Int32.ofNat k)), some (.int (Int32.ofNat j)), some (.int (aw_cnt (fun z => decide (¬ pi.getD (576 * k + z) 0 = pi.getD (576 * j + z) 0)) i)), some (.int (Int32.ofNat i + 1))]) (st' := []) (h1 := am_h w g) rfl ?_
        rw [show (Int32.ofNat i + 1 : Int32) = Int32.ofNat (i + 1) from am_add i 1]
        refine am_R.nxs 1 (pc' := 20) (lv' := [some (.ref 1021), some (.int (Int32.ofNat k)), some (.int (Int32.ofNat j)), some (.int (aw_cnt (fun z => decide (¬ pi.getD (576 * k + z) 0 = pi.getD (576 * j + z) 0)) i)), some (.int (Int32.ofNat (i + 1)))]) (st' := []) (h1 := am_h w g) rfl ?_
        have e9 : (aw_cnt (fun z => decide (¬ pi.getD (576 * k + z) 0 = pi.getD (576 * j + z) 0)) (i + 1)) = (aw_cnt (fun z => decide (¬ pi.getD (576 * k + z) 0 = pi.getD (576 * j + z) 0)) i) := if_neg (by rw [decide_eq_true_eq]; first | exact b54 | exact fun q => q b54 | exact fun q => b54 q)
        rw [← e9]
        exact ih (i + 1) (by omega)
      · refine am_R.nxs 6 (pc' := 68) (lv' := [some (.ref 1021), some (.int (Int32.ofNat k)), some (.int (Int32.ofNat j)), some (.int ((aw_cnt (fun z => decide (¬ pi.getD (576 * k + z) 0 = pi.getD (576 * j + z) 0)) i) + 1)), some (.int (Int32.ofNat i + 1))]) (st' := []) (h1 := am_h w g) rfl ?_
        rw [show (Int32.ofNat i + 1 : Int32) = Int32.ofNat (i + 1) from am_add i 1]
        refine am_R.nxs 1 (pc' := 20) (lv' := [some (.ref 1021), some (.int (Int32.ofNat k)), some (.int (Int32.ofNat j)), some (.int ((aw_cnt (fun z => decide (¬ pi.getD (576 * k + z) 0 = pi.getD (576 * j + z) 0)) i) + 1)), some (.int (Int32.ofNat (i + 1)))]) (st' := []) (h1 := am_h w g) rfl ?_
        have e9 : (aw_cnt (fun z => decide (¬ pi.getD (576 * k + z) 0 = pi.getD (576 * j + z) 0)) (i + 1)) = (aw_cnt (fun z => decide (¬ pi.getD (576 * k + z) 0 = pi.getD (576 * j + z) 0)) i) + 1 := if_pos (decide_eq_true (by first | exact b54 | exact Decidable.not_not.mp b54))
        rw [← e9]
        exact ih (i + 1) (by omega)
theorem aw_k136a {w : Nat → am_C} {g : am_H} (d : Nat) {ft ty wr wd wt sn : Int32} (h21 : w 21 = aw_c21 ft ty wr wd wt sn) {ma : List Int32} (h27 : w 27 = am_I 0 ma) (l27 : ma.length = 3) {pi : List Int32} (h28 : w 28 = am_I 0 pi) (l28 : pi.length = 1728) {k : Nat} (hk : k < 3) {j : Nat} (hj : j < 3) (hm : ¬ ma.getD k 0 = 0) (hm1 : ¬ ma.getD j 0 = 0)  : am_R (d + 1) 136 0 [some (.ref 1021), some (.int (Int32.ofNat k)), some (.int (Int32.ofNat j)), none, none] [] (am_h w g) (.inl (some (.int (aw_cnt (fun z => decide (¬ pi.getD (576 * k + z) 0 = pi.getD (576 * j + z) 0)) 576)))) (am_h (am_pu w 21 (aw_c21 0 ty wr wd wt sn)) g) := by
  refine am_R.nxs 4 (pc' := 4) (lv' := [some (.ref 1021), some (.int (Int32.ofNat k)), some (.int (Int32.ofNat j)), none, none]) (st' := [.int (Int32.ofNat j), .int (Int32.ofNat k), .ref 1021, .ref 1021]) (h1 := am_h w g) rfl ?_
  refine am_R.cv (a := 1021) (as' := [.int (Int32.ofNat k), .int (Int32.ofNat j)]) (r := [.ref 1021]) (v := some (.int 0)) (h1 := am_h w g) (pc' := 7) rfl rfl rfl rfl (am_wf 21 (by decide) h21) rfl rfl (aw_k137a d h21 h27 l27 hk hj hm hm1) rfl ?_
  refine am_R.cv (a := 1021) (as' := [.int 0]) (r := []) (v := some (.int 0)) (h1 := am_h (am_pu w 21 (aw_c21 0 ty wr wd wt sn)) g) (pc' := 10) rfl rfl rfl rfl (am_wf 21 (by decide) h21) rfl rfl (aw_k99a (w := w) d h21 0 (by decide)) rfl ?_
  refine am_R.ites 1 (P := 0 = 0) (T := 15) (F := 13) (lv' := [some (.ref 1021), some (.int (Int32.ofNat k)), some (.int (Int32.ofNat j)), none, none]) (st' := []) (h1 := am_h (am_pu w 21 (aw_c21 0 ty wr wd wt sn)) g) rfl (fun b10 => ?_) (fun b10 => ?_)
  · refine am_R.nxs 4 (pc' := 20) (lv' := [some (.ref 1021), some (.int (Int32.ofNat k)), some (.int (Int32.ofNat j)), some (.int 0), some (.int 0)]) (st' := []) (h1 := am_h (am_pu w 21 (aw_c21 0 ty wr wd wt sn)) g) rfl ?_
    exact aw_k136l (w := am_pu w 21 (aw_c21 0 ty wr wd wt sn)) (d + 1) rfl h28 l28 hk hj 576 0 rfl
  · exact absurd rfl b10
theorem aw_k136b {w : Nat → am_C} {g : am_H} (d : Nat) {ft ty wr wd wt sn : Int32} (h21 : w 21 = aw_c21 ft ty wr wd wt sn) {ma : List Int32} (h27 : w 27 = am_I 0 ma) (l27 : ma.length = 3) {k : Nat} (hk : k < 3) {j : Nat} (hj : j < 3) (hm : ma.getD k 0 = 0) : am_R (d + 1) 136 0 [some (.ref 1021), some (.int (Int32.ofNat k)), some (.int (Int32.ofNat j)), none, none] [] (am_h w g) (.inl (some (.int 0))) (am_h (am_pu w 21 (aw_c21 2 ty wr wd wt sn)) g) := by
  refine am_R.nxs 4 (pc' := 4) (lv' := [some (.ref 1021), some (.int (Int32.ofNat k)), some (.int (Int32.ofNat j)), none, none]) (st' := [.int (Int32.ofNat j), .int (Int32.ofNat k), .ref 1021, .ref 1021]) (h1 := am_h w g) rfl ?_
  refine am_R.cv (a := 1021) (as' := [.int (Int32.ofNat k), .int (Int32.ofNat j)]) (r := [.ref 1021]) (v := some (.int 2)) (h1 := am_h w g) (pc' := 7) rfl rfl rfl rfl (am_wf 21 (by decide) h21) rfl rfl (aw_k137b d h21 h27 l27 hk hj hm) rfl ?_
  refine am_R.cv (a := 1021) (as' := [.int 2]) (r := []) (v := some (.int 1)) (h1 := am_h (am_pu w 21 (aw_c21 2 ty wr wd wt sn)) g) (pc' := 10) rfl rfl rfl rfl (am_wf 21 (by decide) h21) rfl rfl (aw_k99b (w := w) d h21 2 (by decide)) rfl ?_
  refine am_R.ites 1 (P := 1 = 0) (T := 15) (F := 13) (lv' := [some (.ref 1021), some (.int (Int32.ofNat k)), some (.int (Int32.ofNat j)), none, none]) (st' := []) (h1 := am_h (am_pu w 21 (aw_c21 2 ty wr wd wt sn)) g) rfl (fun b10 => ?_) (fun b10 => ?_)
  · exact absurd b10 (by decide)
  · refine am_R.nxs 1 (pc' := 14) (lv' := [some (.ref 1021), some (.int (Int32.ofNat k)), some (.int (Int32.ofNat j)), none, none]) (st' := [.int 0]) (h1 := am_h (am_pu w 21 (aw_c21 2 ty wr wd wt sn)) g) rfl ?_
    exact am_R.reti rfl rfl rfl
theorem aw_k136f {w : Nat → am_C} {g : am_H} (d : Nat) {ft ty wr wd wt sn : Int32} (h21 : w 21 = aw_c21 ft ty wr wd wt sn) {ma : List Int32} (h27 : w 27 = am_I 0 ma) (l27 : ma.length = 3) {k : Nat} (hk : k < 3) {j : Nat} (hj : j < 3) (hm : ¬ ma.getD k 0 = 0) (hm1 : ma.getD j 0 = 0) : am_R (d + 1) 136 0 [some (.ref 1021), some (.int (Int32.ofNat k)), some (.int (Int32.ofNat j)), none, none] [] (am_h w g) (.inl (some (.int 0))) (am_h (am_pu w 21 (aw_c21 2 ty wr wd wt sn)) g) := by
  refine am_R.nxs 4 (pc' := 4) (lv' := [some (.ref 1021), some (.int (Int32.ofNat k)), some (.int (Int32.ofNat j)), none, none]) (st' := [.int (Int32.ofNat j), .int (Int32.ofNat k), .ref 1021, .ref 1021]) (h1 := am_h w g) rfl ?_
  refine am_R.cv (a := 1021) (as' := [.int (Int32.ofNat k), .int (Int32.ofNat j)]) (r := [.ref 1021]) (v := some (.int 2)) (h1 := am_h w g) (pc' := 7) rfl rfl rfl rfl (am_wf 21 (by decide) h21) rfl rfl (aw_k137f d h21 h27 l27 hk hj hm hm1) rfl ?_
  refine am_R.cv (a := 1021) (as' := [.int 2]) (r := []) (v := some (.int 1)) (h1 := am_h (am_pu w 21 (aw_c21 2 ty wr wd wt sn)) g) (pc' := 10) rfl rfl rfl rfl (am_wf 21 (by decide) h21) rfl rfl (aw_k99b (w := w) d h21 2 (by decide)) rfl ?_
  refine am_R.ites 1 (P := 1 = 0) (T := 15) (F := 13) (lv' := [some (.ref 1021), some (.int (Int32.ofNat k)), some (.int (Int32.ofNat j)), none, none]) (st' := []) (h1 := am_h (am_pu w 21 (aw_c21 2 ty wr wd wt sn)) g) rfl (fun b10 => ?_) (fun b10 => ?_)
  · exact absurd b10 (by decide)
  · refine am_R.nxs 1 (pc' := 14) (lv' := [some (.ref 1021), some (.int (Int32.ofNat k)), some (.int (Int32.ofNat j)), none, none]) (st' := [.int 0]) (h1 := am_h (am_pu w 21 (aw_c21 2 ty wr wd wt sn)) g) rfl ?_
    exact am_R.reti rfl rfl rfl
theorem aw_k136c {w : Nat → am_C} {g : am_H} (d : Nat) {ft ty wr wd wt sn : Int32} (h21 : w 21 = aw_c21 ft ty wr wd wt sn) {s t : Int32} (hs : (s < 0 ∨ ¬ s < 3) ∨ (t < 0 ∨ ¬ t < 3)) : am_R (d + 1) 136 0 [some (.ref 1021), some (.int s), some (.int t), none, none] [] (am_h w g) (.inl (some (.int 0))) (am_h (am_pu w 21 (aw_c21 1 ty wr wd wt sn)) g) := by
  refine am_R.nxs 4 (pc' := 4) (lv' := [some (.ref 1021), some (.int s), some (.int t), none, none]) (st' := [.int t, .int s, .ref 1021, .ref 1021]) (h1 := am_h w g) rfl ?_
  refine am_R.cv (a := 1021) (as' := [.int s, .int t]) (r := [.ref 1021]) (v := some (.int 1)) (h1 := am_h w g) (pc' := 7) rfl rfl rfl rfl (am_wf 21 (by decide) h21) rfl rfl (aw_k137c d h21 hs) rfl ?_
  refine am_R.cv (a := 1021) (as' := [.int 1]) (r := []) (v := some (.int 1)) (h1 := am_h (am_pu w 21 (aw_c21 1 ty wr wd wt sn)) g) (pc' := 10) rfl rfl rfl rfl (am_wf 21 (by decide) h21) rfl rfl (aw_k99b (w := w) d h21 1 (by decide)) rfl ?_
  refine am_R.ites 1 (P := 1 = 0) (T := 15) (F := 13) (lv' := [some (.ref 1021), some (.int s), some (.int t), none, none]) (st' := []) (h1 := am_h (am_pu w 21 (aw_c21 1 ty wr wd wt sn)) g) rfl (fun b10 => ?_) (fun b10 => ?_)
  · exact absurd b10 (by decide)
  · refine am_R.nxs 1 (pc' := 14) (lv' := [some (.ref 1021), some (.int s), some (.int t), none, none]) (st' := [.int 0]) (h1 := am_h (am_pu w 21 (aw_c21 1 ty wr wd wt sn)) g) rfl ?_
    exact am_R.reti rfl rfl rfl
theorem aw_Iinj {t : Nat} {l k : List Int32} (h : am_I t l = am_I t k) : l = k := by
  unfold am_I at h
  have h2 := congrArg (fun c : am_C => match c with
    | .inl _ => []
    | .inr z => z.2) h
  have h3 : l.map Value.int = k.map Value.int := h2
  exact List.map_inj_right (fun a b e => Value.int.inj e) |>.mp h3
set_option maxRecDepth 100000 in
theorem aw_o6 : aw_Op 436 := by
  intro d i w g x5 x6 xs hI h0 hi hx
  obtain ⟨tl, pl, sp, ft, wd, wt, sn, h1, h21, hT, hP, hS, hC, u, hO⟩ := hI
  by_cases hs : xs.getD (i + 1) 0 < 0 ∨ ¬ xs.getD (i + 1) 0 < 3
  · refine ⟨am_pu w 21 (aw_c21 1 (Int32.ofNat tl) (Int32.ofNat pl) wd wt sn), g ++ [.inl (8, [])], some (.int 1), some (.int 0), ⟨tl, pl, sp, 1, wd, wt, sn, h1, rfl, hT, hP, aw_Shs_up (by omega) hS, hC, u, hO⟩, h0, by simp, aw_sz1 rfl, fun o h' K => ?_⟩
    exact aw_L6 d i x5 x6 h0 hi hx (aw_W74t8 (d + 38) h1 _ _ (aw_k75c (d + 36) h1 _ hs)) h0 h21 (aw_k136c (d + 38) h21 (Or.inl hs)) rfl (fun q => absurd q (by decide)) K
  obtain ⟨k, hk, hke⟩ := aw_sh3 hs
  obtain ⟨rs, r, to, ma, pi, br, bk, co, h4, hl, hr, hrs, ⟨m1, m2, m3, m4, m5, m6, m7, m8, m9, m10, m11, m12⟩, wc, bc, sc, ic, cc, dp, rd, ws, pc, bw, ⟨t1, t2, t3, t4, t5, t6, t7⟩, hsh⟩ := aw_get hS hk
  by_cases ht : xs.getD (i + 2) 0 < 0 ∨ ¬ xs.getD (i + 2) 0 < 3
  · refine ⟨am_pu w 21 (aw_c21 1 (Int32.ofNat tl) (Int32.ofNat pl) wd wt sn), g ++ [.inl (8, [])], some (.int 1), some (.int 0), ⟨tl, pl, sp, 1, wd, wt, sn, h1, rfl, hT, hP, aw_Shs_up (by omega) hS, hC, u, hO⟩, h0, by simp, aw_sz1 rfl, fun o h' K => ?_⟩
    exact aw_L6 d i x5 x6 h0 hi hx (aw_W74t8 (d + 38) h1 _ _ (by rw [hke]; exact aw_k75e (d + 36) h1 hk ht)) h0 h21 (aw_k136c (d + 38) h21 (Or.inr ht)) rfl (fun q => absurd q (by decide)) K
  · obtain ⟨j, hj, hje⟩ := aw_sh3 ht
    obtain ⟨rs', q, to', ma', pi', br', bk', co', h4', hl', hq, hqs, ⟨n1, n2, n3, n4, n5, n6, n7, n8, n9, n10, n11, n12⟩, wc1, bc1, sc1, ic1, cc1, dp1, rd1, ws1, pd, bw1, ⟨u1, u2, u3, u4, u5, u6, u7⟩, hsq⟩ := aw_get hS hj
    cases h4.symm.trans h4'
    cases m1.symm.trans n1 |> aw_Iinj
    cases m2.symm.trans n2 |> aw_Iinj
    cases m3.symm.trans n3 |> aw_Iinj
    cases m4.symm.trans n4 |> aw_Iinj
    cases m5.symm.trans n5 |> aw_Iinj
    cases m6.symm.trans n6 |> aw_Iinj
    rcases hsh with ⟨hd, hm⟩ | ⟨hd, js, b, j1, j2, j3, j4, j5, j6, b1, b2, b3, b4, q1, q2, q3, q4, q5⟩
    · refine ⟨am_pu w 21 (aw_c21 2 (Int32.ofNat tl) (Int32.ofNat pl) wd wt sn), g ++ [.inl (9, [])], some (.int 2), some (.int 0), ⟨tl, pl, sp, 2, wd, wt, sn, h1, rfl, hT, hP, aw_Shs_up (by omega) hS, hC, u, hO⟩, h0, by simp, aw_sz1 rfl, fun o h' K => ?_⟩
      exact aw_L6 d i x5 x6 h0 hi hx (aw_W74t9 (d + 38) h1 _ _ (by rw [hke, hje]; exact aw_k75b (d + 36) h1 h4 hl hk hr hrs t1 hj hd)) h0 h21 (by rw [hke, hje]; exact aw_k136b (d + 38) h21 m2 m8 hk hj hm) rfl (fun q => absurd q (by decide)) K
    · rcases hsq with ⟨hd1, hm1⟩ | ⟨hd1, js1, b9, k1, k2, k3, k4, k5, k6, -⟩
      · refine ⟨am_pu w 21 (aw_c21 2 (Int32.ofNat tl) (Int32.ofNat pl) wd wt sn), g ++ [.inl (9, [])], some (.int 2), some (.int 0), ⟨tl, pl, sp, 2, wd, wt, sn, h1, rfl, hT, hP, aw_Shs_up (by omega) hS, hC, u, hO⟩, h0, by simp, aw_sz1 rfl, fun o h' K => ?_⟩
        exact aw_L6 d i x5 x6 h0 hi hx (aw_W74t9 (d + 38) h1 _ _ (by rw [hke, hje]; exact aw_k75f (d + 36) h1 h4 hl hk hr hrs hj hq hqs t1 u1 hd hd1)) h0 h21 (by rw [hke, hje]; exact aw_k136f (d + 38) h21 m2 m8 hk hj (by rw [j4]; exact aw_nz j1 j2) hm1) rfl (fun q => absurd q (by decide)) K
      · have e6 : aw_cnt (fun z => decide (¬ pc.getD z 0 = pd.getD z 0)) 576 = aw_cnt (fun z => decide (¬ pi.getD (576 * k + z) 0 = pi.getD (576 * j + z) 0)) 576 := aw_cnt_cong (fun z hz => by rw [j6 z hz, k6 z hz])
        refine ⟨am_pu (am_pu w 44 (.inr (3, [.long (aw_cnt (fun z => decide (¬ pc.getD z 0 = pd.getD z 0)) 576).toInt64]))) 21 (aw_c21 0 (Int32.ofNat tl) (Int32.ofNat pl) wd wt sn), g, some (.int 0), some (.int (aw_cnt (fun z => decide (¬ pc.getD z 0 = pd.getD z 0)) 576)), ⟨tl, pl, sp, 0, wd, wt, sn, h1, rfl, hT, hP, aw_Shs_up (by omega) (aw_Shs_up (by omega) hS), hC, _, rfl⟩, h0, by omega, by omega, fun o h' K => ?_⟩
        exact aw_L6 d i x5 x6 h0 hi hx (aw_W74a (d + 38) h1 _ _ (by rw [hke, hje]; exact aw_k75a (d + 36) h1 h4 hl hk hr hrs hj hq hqs t1 u1 t3 t6 u3 u6 hd hd1) hO) h0 h21 (by rw [hke, hje, e6]; exact aw_k136a (w := am_pu w 44 _) (d + 38) h21 m2 m8 m3 m9 hk hj (by rw [j4]; exact aw_nz j1 j2) (by rw [k4]; exact aw_nz k1 k2)) rfl (fun _ => rfl) K
end
section
/-! same: both sides, and its call in the law. -/
section AmAc
variable {d mi pc len T F : Nat} {lv : am_L} {st : List Value} {h h' : am_H} {o : am_O}
theorem aw_rf {j : Nat} (hj : j < 38) : am_rf h (.ref j) = some (some j) := by
  have h1 : (am_at h j).isSome = true := by
    unfold am_at
    rw [if_pos (by omega), List.getElem?_eq_getElem (by rw [am_stat116]; omega)]
    rfl
  simp only [am_rf]
  rw [if_pos ⟨h1, Or.inl hj⟩]
theorem am_R.ac {t : Int} {j1 j2 : Nat} (hc : am_code mi pc = some (.if_acmp .eq t, len)) (h1 : j1 < 38) (h2 : j2 < 38) (hT : t.toNat = T) (hF : pc + len = F) (k1 : j1 = j2 → am_R d mi T lv st h o h') (k2 : ¬ j1 = j2 → am_R d mi F lv st h o h') : am_R d mi pc lv (.ref j2 :: .ref j1 :: st) h o h' := by
  subst hT hF
  have e : am_nx mi pc lv (.ref j2 :: .ref j1 :: st) h = some (if some j1 = some j2 then t.toNat else pc + len, lv, st, h) := by
    simp only [am_nx, hc, am_ret, am_thr, am_inv, am_one, am_push, am_sto, am_ari, am_br, aw_rf h1, aw_rf h2]
  by_cases hq : j1 = j2
  · rw [if_pos (by rw [hq])] at e
    exact am_R.nx e (k1 hq)
  · rw [if_neg (fun z => hq (Option.some.inj z))] at e
    exact am_R.nx e (k2 hq)
theorem am_R.acn {t : Int} {j1 j2 : Nat} (hc : am_code mi pc = some (.if_acmp .ne t, len)) (h1 : j1 < 38) (h2 : j2 < 38) (hT : t.toNat = T) (hF : pc + len = F) (k1 : ¬ j1 = j2 → am_R d mi T lv st h o h') (k2 : j1 = j2 → am_R d mi F lv st h o h') : am_R d mi pc lv (.ref j2 :: .ref j1 :: st) h o h' := by
  subst hT hF
  have e : am_nx mi pc lv (.ref j2 :: .ref j1 :: st) h = some (if ¬ some j1 = some j2 then t.toNat else pc + len, lv, st, h) := by
    simp only [am_nx, hc, am_ret, am_thr, am_inv, am_one, am_push, am_sto, am_ari, am_br, aw_rf h1, aw_rf h2]
  by_cases hq : j1 = j2
  · rw [if_neg (fun z => z (by rw [hq]))] at e
    exact am_R.nx e (k2 hq)
  · rw [if_pos (fun z => hq (Option.some.inj z))] at e
    exact am_R.nx e (k1 hq)
end AmAc
/-- the words of a Told -/
def aw_ws (ws : List Value) (js : List Nat) : Prop := js.length ≤ 120 ∧ ∀ k j : Nat, js[k]? = some j → j < 37 ∧ ws[k]? = some (Value.ref j)
theorem aw_ext {js js1 : List Nat} {n : Nat} (h1 : js.length = n) (h2 : js1.length = n) (h : ∀ k, k < n → js[k]? = js1[k]?) : js = js1 := by
  apply List.ext_getElem?
  intro k
  by_cases hk : k < n
  · exact h k hk
  · rw [List.getElem?_eq_none (by omega), List.getElem?_eq_none (by omega)]
theorem aw_k84l {w : Nat → am_C} {g : am_H} (d : Nat) {r q : Nat} (hr : r < 4) (hq : q < 4) {js js1 : List Nat} {bc sc ic cc dp rd bc1 sc1 ic1 cc1 dp1 rd1 : Int32} (hT : w (5 + 4 * r) = aw_cT r (Int32.ofNat js.length) bc sc ic cc dp rd) (hT1 : w (5 + 4 * q) = aw_cT q (Int32.ofNat js1.length) bc1 sc1 ic1 cc1 dp1 rd1) {ws ws1 : List Value} (hW : w (6 + 4 * r) = .inr (4, ws)) (hW1 : w (6 + 4 * q) = .inr (4, ws1)) (hl : ws.length = 120) (hl1 : ws1.length = 120) (hj : aw_ws ws js) (hj1 : aw_ws ws1 js1) (hn : js.length = js1.length) : ∀ m i : Nat, i + m = js.length → (∀ k, k < i → js[k]? = js1[k]?) → am_R d 84 15 [some (.ref (1005 + 4 * r)), some (.ref (1005 + 4 * q)), some (.int (Int32.ofNat i))] [] (am_h w g) (.inl (some (.int (if js = js1 then 1 else 0)))) (am_h w g) := by
  have hjl := hj.1
  intro m
  induction m with
  | zero =>
    intro i hi hk
    have hi9 : i = js.length := by omega
    subst hi9
    refine am_R.nxs 2 (pc' := 17) (lv' := [some (.ref (1005 + 4 * r)), some (.ref (1005 + 4 * q)), some (.int (Int32.ofNat js.length))]) (st' := [.ref (1005 + 4 * r), .int (Int32.ofNat js.length)]) (h1 := am_h w g) rfl ?_
    refine am_R.gf (pc' := 20) (v := .int (Int32.ofNat js.length)) rfl (aw_at5 hr hT) rfl rfl rfl ?_
    refine am_R.ites 1 (P := Int32.ofNat js.length ≤ Int32.ofNat js.length) (T := 46) (F := 23) (lv' := [some (.ref (1005 + 4 * r)), some (.ref (1005 + 4 * q)), some (.int (Int32.ofNat js.length))]) (st' := []) (h1 := am_h w g) rfl (fun b20 => ?_) (fun b20 => ?_)
    · have b20 : js.length ≤ js.length := (am_leN (i := js.length) (n := js.length) (by omega) (by omega)).mp b20
      refine am_R.nxs 1 (pc' := 47) (lv' := [some (.ref (1005 + 4 * r)), some (.ref (1005 + 4 * q)), some (.int (Int32.ofNat js.length))]) (st' := [.int 1]) (h1 := am_h w g) rfl ?_
      rw [if_pos (aw_ext rfl hn.symm hk)]
      exact am_R.reti rfl rfl rfl
    · have b20 : ¬ js.length ≤ js.length := fun hq9 => b20 ((am_leN (i := js.length) (n := js.length) (by omega) (by omega)).mpr hq9)
      omega
  | succ m ih =>
    intro i hi hk
    obtain ⟨a, ha⟩ : ∃ a, js[i]? = some a := ⟨_, List.getElem?_eq_getElem (by omega)⟩
    obtain ⟨a1, ha1⟩ : ∃ a1, js1[i]? = some a1 := ⟨_, List.getElem?_eq_getElem (by omega)⟩
    refine am_R.nxs 2 (pc' := 17) (lv' := [some (.ref (1005 + 4 * r)), some (.ref (1005 + 4 * q)), some (.int (Int32.ofNat i))]) (st' := [.ref (1005 + 4 * r), .int (Int32.ofNat i)]) (h1 := am_h w g) rfl ?_
    refine am_R.gf (pc' := 20) (v := .int (Int32.ofNat js.length)) rfl (aw_at5 hr hT) rfl rfl rfl ?_
    refine am_R.ites 1 (P := Int32.ofNat js.length ≤ Int32.ofNat i) (T := 46) (F := 23) (lv' := [some (.ref (1005 + 4 * r)), some (.ref (1005 + 4 * q)), some (.int (Int32.ofNat i))]) (st' := []) (h1 := am_h w g) rfl (fun b20 => ?_) (fun b20 => ?_)
    · have b20 : js.length ≤ i := (am_leN (i := js.length) (n := i) (by omega) (by omega)).mp b20
      omega
    · have b20 : ¬ js.length ≤ i := fun hq9 => b20 ((am_leN (i := js.length) (n := i) (by omega) (by omega)).mpr hq9)
      refine am_R.nxs 1 (pc' := 24) (lv' := [some (.ref (1005 + 4 * r)), some (.ref (1005 + 4 * q)), some (.int (Int32.ofNat i))]) (st' := [.ref (1005 + 4 * r)]) (h1 := am_h w g) rfl ?_
      refine am_R.gf (pc' := 27) (v := .ref (1006 + 4 * r)) rfl (aw_at5 hr hT) rfl rfl rfl ?_
      refine am_R.nxs 1 (pc' := 28) (lv' := [some (.ref (1005 + 4 * r)), some (.ref (1005 + 4 * q)), some (.int (Int32.ofNat i))]) (st' := [.int (Int32.ofNat i), .ref (1006 + 4 * r)]) (h1 := am_h w g) rfl ?_
      refine am_R.lda (i := i) (xs := ws) (v := .ref a) (pc' := 29) rfl (aw_at6 hr hW) (by decide) (by omega) (by omega) ((hj.2 _ _ ha).2) rfl ?_
      refine am_R.nxs 1 (pc' := 30) (lv' := [some (.ref (1005 + 4 * r)), some (.ref (1005 + 4 * q)), some (.int (Int32.ofNat i))]) (st' := [.ref (1005 + 4 * q), .ref a]) (h1 := am_h w g) rfl ?_
      refine am_R.gf (pc' := 33) (v := .ref (1006 + 4 * q)) rfl (aw_at5 hq hT1) rfl rfl rfl ?_
      refine am_R.nxs 1 (pc' := 34) (lv' := [some (.ref (1005 + 4 * r)), some (.ref (1005 + 4 * q)), some (.int (Int32.ofNat i))]) (st' := [.int (Int32.ofNat i), .ref (1006 + 4 * q), .ref a]) (h1 := am_h w g) rfl ?_
      refine am_R.lda (i := i) (xs := ws1) (v := .ref a1) (pc' := 35) rfl (aw_at6 hq hW1) (by decide) (by omega) (by omega) ((hj1.2 _ _ ha1).2) rfl ?_
      refine am_R.ac (j1 := a) (j2 := a1) (T := 40) (F := 38) rfl (by have := (hj.2 _ _ ha).1; omega) (by have := (hj1.2 _ _ ha1).1; omega) rfl rfl (fun e => ?_) (fun e => ?_)
      · refine am_R.nxs 1 (pc' := 43) (lv' := [some (.ref (1005 + 4 * r)), some (.ref (1005 + 4 * q)), some (.int (Int32.ofNat i + 1))]) (st' := []) (h1 := am_h w g) rfl ?_
        rw [show (Int32.ofNat i + 1 : Int32) = Int32.ofNat (i + 1) from am_add i 1]
        refine am_R.nxs 1 (pc' := 15) (lv' := [some (.ref (1005 + 4 * r)), some (.ref (1005 + 4 * q)), some (.int (Int32.ofNat (i + 1)))]) (st' := []) (h1 := am_h w g) rfl ?_
        refine ih (i + 1) (by omega) (fun k hk9 => ?_)
        by_cases hki : k = i
        · subst hki
          rw [ha, ha1, e]
        · exact hk k (by omega)
      · refine am_R.nxs 1 (pc' := 39) (lv' := [some (.ref (1005 + 4 * r)), some (.ref (1005 + 4 * q)), some (.int (Int32.ofNat i))]) (st' := [.int 0]) (h1 := am_h w g) rfl ?_
        rw [if_neg (fun z => e (by rw [z] at ha; exact Option.some.inj (ha.symm.trans ha1)))]
        exact am_R.reti rfl rfl rfl
theorem aw_k84 {w : Nat → am_C} {g : am_H} (d : Nat) {r q : Nat} (hr : r < 4) (hq : q < 4) {js js1 : List Nat} {bc sc ic cc dp rd bc1 sc1 ic1 cc1 dp1 rd1 : Int32} (hT : w (5 + 4 * r) = aw_cT r (Int32.ofNat js.length) bc sc ic cc dp rd) (hT1 : w (5 + 4 * q) = aw_cT q (Int32.ofNat js1.length) bc1 sc1 ic1 cc1 dp1 rd1) {ws ws1 : List Value} (hW : w (6 + 4 * r) = .inr (4, ws)) (hW1 : w (6 + 4 * q) = .inr (4, ws1)) (hl : ws.length = 120) (hl1 : ws1.length = 120) (hj : aw_ws ws js) (hj1 : aw_ws ws1 js1) : am_R d 84 0 [some (.ref (1005 + 4 * r)), some (.ref (1005 + 4 * q)), none] [] (am_h w g) (.inl (some (.int (if js = js1 then 1 else 0)))) (am_h w g) := by
  have hjl := hj.1
  have hjl1 := hj1.1
  refine am_R.nxs 1 (pc' := 1) (lv' := [some (.ref (1005 + 4 * r)), some (.ref (1005 + 4 * q)), none]) (st' := [.ref (1005 + 4 * r)]) (h1 := am_h w g) rfl ?_
  refine am_R.gf (pc' := 4) (v := .int (Int32.ofNat js.length)) rfl (aw_at5 hr hT) rfl rfl rfl ?_
  refine am_R.nxs 1 (pc' := 5) (lv' := [some (.ref (1005 + 4 * r)), some (.ref (1005 + 4 * q)), none]) (st' := [.ref (1005 + 4 * q), .int (Int32.ofNat js.length)]) (h1 := am_h w g) rfl ?_
  refine am_R.gf (pc' := 8) (v := .int (Int32.ofNat js1.length)) rfl (aw_at5 hq hT1) rfl rfl rfl ?_
  refine am_R.ites 1 (P := Int32.ofNat js.length = Int32.ofNat js1.length) (T := 13) (F := 11) (lv' := [some (.ref (1005 + 4 * r)), some (.ref (1005 + 4 * q)), none]) (st' := []) (h1 := am_h w g) rfl (fun b8 => ?_) (fun b8 => ?_)
  · have b8 : js.length = js1.length := (am_eqN (i := js.length) (n := js1.length) (by omega) (by omega)).mp b8
    refine am_R.nxs 2 (pc' := 15) (lv' := [some (.ref (1005 + 4 * r)), some (.ref (1005 + 4 * q)), some (.int 0)]) (st' := []) (h1 := am_h w g) rfl ?_
    exact aw_k84l d hr hq hT hT1 hW hW1 hl hl1 hj hj1 b8 js.length 0 (Nat.zero_add _) (fun k hk => absurd hk (Nat.not_lt_zero k))
  · have b8 : ¬ js.length = js1.length := fun hq9 => b8 ((am_eqN (i := js.length) (n := js1.length) (by omega) (by omega)).mpr hq9)
    refine am_R.nxs 1 (pc' := 12) (lv' := [some (.ref (1005 + 4 * r)), some (.ref (1005 + 4 * q)), none]) (st' := [.int 0]) (h1 := am_h w g) rfl ?_
    rw [if_neg (fun z => b8 (by rw [z]))]
    exact am_R.reti rfl rfl rfl
theorem aw_k83a {w : Nat → am_C} {g : am_H} (d : Nat) {tl pl sp : Nat} (h1 : w 1 = aw_c1 tl pl sp) {rs : List Value} (h4 : w 4 = .inr (5, rs)) (hl : rs.length = 3) {k r : Nat} (hk : k < 3) (hr : r < 4) (hrs : rs[k]? = some (.ref (1005 + 4 * r))) {j q : Nat} (hj : j < 3) (hq : q < 4) (hqs : rs[j]? = some (.ref (1005 + 4 * q))) {js : List Nat} {bc sc ic cc dp rd : Int32} (hT : w (5 + 4 * r) = aw_cT r (Int32.ofNat js.length) bc sc ic cc dp rd) {js1 : List Nat} {bc1 sc1 ic1 cc1 dp1 rd1 : Int32} (hT1 : w (5 + 4 * q) = aw_cT q (Int32.ofNat js1.length) bc1 sc1 ic1 cc1 dp1 rd1) {ws ws1 : List Value} (hW : w (6 + 4 * r) = .inr (4, ws)) (hW1 : w (6 + 4 * q) = .inr (4, ws1)) (hwl : ws.length = 120) (hwl1 : ws1.length = 120) (hjs : aw_ws ws js) (hjs1 : aw_ws ws1 js1) (hd : rd = 1) (hd1 : rd1 = 1) : am_R (d + 2) 83 0 [some (.ref 1001), some (.int (Int32.ofNat k)), some (.int (Int32.ofNat j))] [] (am_h w g) (.inl (some (.int (if js = js1 then 1 else 0)))) (am_h w g) := by
  refine am_R.nxs 2 (pc' := 2) (lv' := [some (.ref 1001), some (.int (Int32.ofNat k)), some (.int (Int32.ofNat j))]) (st' := [.int (Int32.ofNat k), .ref 1001]) (h1 := am_h w g) rfl ?_
  refine am_R.cv (a := 1001) (as' := [.int (Int32.ofNat k)]) (r := []) (v := none) (h1 := am_h w g) (pc' := 5) rfl rfl rfl rfl (am_wf 1 (by decide) h1) rfl rfl (aw_k9a (d + 1) _ _ (aw_nn k) ((am_ltN (n := 3) (by omega) (by decide)).mpr hk)) rfl ?_
  refine am_R.nxs 2 (pc' := 7) (lv' := [some (.ref 1001), some (.int (Int32.ofNat k)), some (.int (Int32.ofNat j))]) (st' := [.int (Int32.ofNat j), .ref 1001]) (h1 := am_h w g) rfl ?_
  refine am_R.cv (a := 1001) (as' := [.int (Int32.ofNat j)]) (r := []) (v := none) (h1 := am_h w g) (pc' := 10) rfl rfl rfl rfl (am_wf 1 (by decide) h1) rfl rfl (aw_k9a (d + 1) _ _ (aw_nn j) ((am_ltN (n := 3) (by omega) (by decide)).mpr hj)) rfl ?_
  refine am_R.nxs 2 (pc' := 12) (lv' := [some (.ref 1001), some (.int (Int32.ofNat k)), some (.int (Int32.ofNat j))]) (st' := [.int (Int32.ofNat k), .ref 1001]) (h1 := am_h w g) rfl ?_
  refine am_R.cv (a := 1001) (as' := [.int (Int32.ofNat k)]) (r := []) (v := some (.ref (1005 + 4 * r))) (h1 := am_h w g) (pc' := 15) rfl rfl rfl rfl (am_wf 1 (by decide) h1) rfl rfl (aw_k69a d h1 h4 hl hk hr hrs hT hd) rfl ?_
  refine am_R.nxs 2 (pc' := 17) (lv' := [some (.ref 1001), some (.int (Int32.ofNat k)), some (.int (Int32.ofNat j))]) (st' := [.int (Int32.ofNat j), .ref 1001, .ref (1005 + 4 * r)]) (h1 := am_h w g) rfl ?_
  refine am_R.cv (a := 1001) (as' := [.int (Int32.ofNat j)]) (r := [.ref (1005 + 4 * r)]) (v := some (.ref (1005 + 4 * q))) (h1 := am_h w g) (pc' := 20) rfl rfl rfl rfl (am_wf 1 (by decide) h1) rfl rfl (aw_k69a d h1 h4 hl hj hq hqs hT1 hd1) rfl ?_
  refine am_R.cv (a := (1005 + 4 * r)) (as' := [.ref (1005 + 4 * q)]) (r := []) (v := some (.int (if js = js1 then 1 else 0))) (h1 := am_h w g) (pc' := 23) rfl rfl rfl rfl (aw_at5 hr hT) rfl rfl (aw_k84 (d + 1) hr hq hT hT1 hW hW1 hwl hwl1 hjs hjs1) rfl ?_
  exact am_R.reti rfl rfl (by split <;> rfl)
theorem aw_k83b {w : Nat → am_C} {g : am_H} (d : Nat) {tl pl sp : Nat} (h1 : w 1 = aw_c1 tl pl sp) {rs : List Value} (h4 : w 4 = .inr (5, rs)) (hl : rs.length = 3) {k r : Nat} (hk : k < 3) (hr : r < 4) (hrs : rs[k]? = some (.ref (1005 + 4 * r))) {wc bc sc ic cc dp rd : Int32} (hT : w (5 + 4 * r) = aw_cT r wc bc sc ic cc dp rd) {j : Nat} (hj : j < 3) (hd : rd = 0) : am_R (d + 2) 83 0 [some (.ref 1001), some (.int (Int32.ofNat k)), some (.int (Int32.ofNat j))] [] (am_h w g) (.inr (1000 + (am_h w g).length)) (am_h w (g ++ [.inl (9, [])])) := by
  refine am_R.nxs 2 (pc' := 2) (lv' := [some (.ref 1001), some (.int (Int32.ofNat k)), some (.int (Int32.ofNat j))]) (st' := [.int (Int32.ofNat k), .ref 1001]) (h1 := am_h w g) rfl ?_
  refine am_R.cv (a := 1001) (as' := [.int (Int32.ofNat k)]) (r := []) (v := none) (h1 := am_h w g) (pc' := 5) rfl rfl rfl rfl (am_wf 1 (by decide) h1) rfl rfl (aw_k9a (d + 1) _ _ (aw_nn k) ((am_ltN (n := 3) (by omega) (by decide)).mpr hk)) rfl ?_
  refine am_R.nxs 2 (pc' := 7) (lv' := [some (.ref 1001), some (.int (Int32.ofNat k)), some (.int (Int32.ofNat j))]) (st' := [.int (Int32.ofNat j), .ref 1001]) (h1 := am_h w g) rfl ?_
  refine am_R.cv (a := 1001) (as' := [.int (Int32.ofNat j)]) (r := []) (v := none) (h1 := am_h w g) (pc' := 10) rfl rfl rfl rfl (am_wf 1 (by decide) h1) rfl rfl (aw_k9a (d + 1) _ _ (aw_nn j) ((am_ltN (n := 3) (by omega) (by decide)).mpr hj)) rfl ?_
  refine am_R.nxs 2 (pc' := 12) (lv' := [some (.ref 1001), some (.int (Int32.ofNat k)), some (.int (Int32.ofNat j))]) (st' := [.int (Int32.ofNat k), .ref 1001]) (h1 := am_h w g) rfl ?_
  exact am_R.cvp (a := 1001) (as' := [.int (Int32.ofNat k)]) (r := []) rfl rfl rfl rfl (am_wf 1 (by decide) h1) rfl rfl (aw_k69b d h1 h4 hl hk hr hrs hT hd) rfl
theorem aw_k83f {w : Nat → am_C} {g : am_H} (d : Nat) {tl pl sp : Nat} (h1 : w 1 = aw_c1 tl pl sp) {rs : List Value} (h4 : w 4 = .inr (5, rs)) (hl : rs.length = 3) {k r : Nat} (hk : k < 3) (hr : r < 4) (hrs : rs[k]? = some (.ref (1005 + 4 * r))) {j q : Nat} (hj : j < 3) (hq : q < 4) (hqs : rs[j]? = some (.ref (1005 + 4 * q))) {wc bc sc ic cc dp rd : Int32} (hT : w (5 + 4 * r) = aw_cT r wc bc sc ic cc dp rd) {wc1 bc1 sc1 ic1 cc1 dp1 rd1 : Int32} (hT1 : w (5 + 4 * q) = aw_cT q wc1 bc1 sc1 ic1 cc1 dp1 rd1) (hd : rd = 1) (hd1 : rd1 = 0) : am_R (d + 2) 83 0 [some (.ref 1001), some (.int (Int32.ofNat k)), some (.int (Int32.ofNat j))] [] (am_h w g) (.inr (1000 + (am_h w g).length)) (am_h w (g ++ [.inl (9, [])])) := by
  refine am_R.nxs 2 (pc' := 2) (lv' := [some (.ref 1001), some (.int (Int32.ofNat k)), some (.int (Int32.ofNat j))]) (st' := [.int (Int32.ofNat k), .ref 1001]) (h1 := am_h w g) rfl ?_
  refine am_R.cv (a := 1001) (as' := [.int (Int32.ofNat k)]) (r := []) (v := none) (h1 := am_h w g) (pc' := 5) rfl rfl rfl rfl (am_wf 1 (by decide) h1) rfl rfl (aw_k9a (d + 1) _ _ (aw_nn k) ((am_ltN (n := 3) (by omega) (by decide)).mpr hk)) rfl ?_
  refine am_R.nxs 2 (pc' := 7) (lv' := [some (.ref 1001), some (.int (Int32.ofNat k)), some (.int (Int32.ofNat j))]) (st' := [.int (Int32.ofNat j), .ref 1001]) (h1 := am_h w g) rfl ?_
  refine am_R.cv (a := 1001) (as' := [.int (Int32.ofNat j)]) (r := []) (v := none) (h1 := am_h w g) (pc' := 10) rfl rfl rfl rfl (am_wf 1 (by decide) h1) rfl rfl (aw_k9a (d + 1) _ _ (aw_nn j) ((am_ltN (n := 3) (by omega) (by decide)).mpr hj)) rfl ?_
  refine am_R.nxs 2 (pc' := 12) (lv' := [some (.ref 1001), some (.int (Int32.ofNat k)), some (.int (Int32.ofNat j))]) (st' := [.int (Int32.ofNat k), .ref 1001]) (h1 := am_h w g) rfl ?_
  refine am_R.cv (a := 1001) (as' := [.int (Int32.ofNat k)]) (r := []) (v := some (.ref (1005 + 4 * r))) (h1 := am_h w g) (pc' := 15) rfl rfl rfl rfl (am_wf 1 (by decide) h1) rfl rfl (aw_k69a d h1 h4 hl hk hr hrs hT hd) rfl ?_
  refine am_R.nxs 2 (pc' := 17) (lv' := [some (.ref 1001), some (.int (Int32.ofNat k)), some (.int (Int32.ofNat j))]) (st' := [.int (Int32.ofNat j), .ref 1001, .ref (1005 + 4 * r)]) (h1 := am_h w g) rfl ?_
  exact am_R.cvp (a := 1001) (as' := [.int (Int32.ofNat j)]) (r := [.ref (1005 + 4 * r)]) rfl rfl rfl rfl (am_wf 1 (by decide) h1) rfl rfl (aw_k69b d h1 h4 hl hj hq hqs hT1 hd1) rfl
theorem aw_k83c {w : Nat → am_C} {g : am_H} (d : Nat) {tl pl sp : Nat} (h1 : w 1 = aw_c1 tl pl sp) {s : Int32} (t : Int32) (hs : s < 0 ∨ ¬ s < 3) : am_R (d + 2) 83 0 [some (.ref 1001), some (.int s), some (.int t)] [] (am_h w g) (.inr (1000 + (am_h w g).length)) (am_h w (g ++ [.inl (8, [])])) := by
  refine am_R.nxs 2 (pc' := 2) (lv' := [some (.ref 1001), some (.int s), some (.int t)]) (st' := [.int s, .ref 1001]) (h1 := am_h w g) rfl ?_
  exact am_R.cvp (a := 1001) (as' := [.int s]) (r := []) rfl rfl rfl rfl (am_wf 1 (by decide) h1) rfl rfl (aw_k9b (d + 1) _ s hs) rfl
theorem aw_k83e {w : Nat → am_C} {g : am_H} (d : Nat) {tl pl sp : Nat} (h1 : w 1 = aw_c1 tl pl sp) {k : Nat} (hk : k < 3) {t : Int32} (ht : t < 0 ∨ ¬ t < 3) : am_R (d + 2) 83 0 [some (.ref 1001), some (.int (Int32.ofNat k)), some (.int t)] [] (am_h w g) (.inr (1000 + (am_h w g).length)) (am_h w (g ++ [.inl (8, [])])) := by
  refine am_R.nxs 2 (pc' := 2) (lv' := [some (.ref 1001), some (.int (Int32.ofNat k)), some (.int t)]) (st' := [.int (Int32.ofNat k), .ref 1001]) (h1 := am_h w g) rfl ?_
  refine am_R.cv (a := 1001) (as' := [.int (Int32.ofNat k)]) (r := []) (v := none) (h1 := am_h w g) (pc' := 5) rfl rfl rfl rfl (am_wf 1 (by decide) h1) rfl rfl (aw_k9a (d + 1) _ _ (aw_nn k) ((am_ltN (n := 3) (by omega) (by decide)).mpr hk)) rfl ?_
  refine am_R.nxs 2 (pc' := 7) (lv' := [some (.ref 1001), some (.int (Int32.ofNat k)), some (.int t)]) (st' := [.int t, .ref 1001]) (h1 := am_h w g) rfl ?_
  exact am_R.cvp (a := 1001) (as' := [.int t]) (r := []) rfl rfl rfl rfl (am_wf 1 (by decide) h1) rfl rfl (aw_k9b (d + 1) _ t ht) rfl
theorem aw_W82a0 {w : Nat → am_C} {g : am_H} (d : Nat) {tl pl sp : Nat} (h1 : w 1 = aw_c1 tl pl sp) (a0 a1 : Int32) {w1 : Nat → am_C} {g1 : am_H} {u : Int64} (c : am_R d 83 0 [some (.ref 1001), some (.int a0), some (.int a1)] [] (am_h w g) (.inl (some (.int 0))) (am_h w1 g1)) (e44 : w1 44 = .inr (3, [.long u])) : am_R (d + 1) 82 0 [some (.ref 1001), some (.int a0), some (.int a1), some (.ref 1044), none] [] (am_h w g) (.inl (some (.int 0))) (am_h (am_pu w1 44 (.inr (3, [.long 0]))) g1) := by
  refine am_R.nxs 5 (pc' := 5) (lv' := [some (.ref 1001), some (.int a0), some (.int a1), some (.ref 1044), none]) (st' := [.int a1, .int a0, .ref 1001, .int 0, .ref 1044]) (h1 := am_h w g) rfl ?_
  refine am_R.cv (a := 1001) (as' := [.int a0, .int a1]) (r := [.int 0, .ref 1044]) (v := some (.int 0)) (h1 := am_h w1 g1) (pc' := 8) rfl rfl rfl rfl (am_wf 1 (by decide) h1) rfl rfl (c) rfl ?_
  refine am_R.ites 1 (P := 0 = 0) (T := 15) (F := 11) (lv' := [some (.ref 1001), some (.int a0), some (.int a1), some (.ref 1044), none]) (st' := [.int 0, .ref 1044]) (h1 := am_h w1 g1) rfl (fun c1 => ?_) (fun c1 => ?_)
  · refine am_R.nxs 1 (pc' := 16) (lv' := [some (.ref 1001), some (.int a0), some (.int a1), some (.ref 1044), none]) (st' := [.long 0, .int 0, .ref 1044]) (h1 := am_h w1 g1) rfl ?_
    refine am_R.stl (v := 0) (pc' := 17) rfl (am_wf 44 (by decide) e44) (am_ws (k := 44) (by decide) (by decide)) rfl ?_
    refine am_R.nxs 2 (pc' := 29) (lv' := [some (.ref 1001), some (.int a0), some (.int a1), some (.ref 1044), none]) (st' := [.int 0]) (h1 := am_h (am_pu w1 44 (.inr (3, [.long 0]))) g1) rfl ?_
    exact am_R.reti rfl rfl rfl
  · exact absurd rfl c1
theorem aw_W82a1 {w : Nat → am_C} {g : am_H} (d : Nat) {tl pl sp : Nat} (h1 : w 1 = aw_c1 tl pl sp) (a0 a1 : Int32) {w1 : Nat → am_C} {g1 : am_H} {u : Int64} (c : am_R d 83 0 [some (.ref 1001), some (.int a0), some (.int a1)] [] (am_h w g) (.inl (some (.int 1))) (am_h w1 g1)) (e44 : w1 44 = .inr (3, [.long u])) : am_R (d + 1) 82 0 [some (.ref 1001), some (.int a0), some (.int a1), some (.ref 1044), none] [] (am_h w g) (.inl (some (.int 0))) (am_h (am_pu w1 44 (.inr (3, [.long 1]))) g1) := by
  refine am_R.nxs 5 (pc' := 5) (lv' := [some (.ref 1001), some (.int a0), some (.int a1), some (.ref 1044), none]) (st' := [.int a1, .int a0, .ref 1001, .int 0, .ref 1044]) (h1 := am_h w g) rfl ?_
  refine am_R.cv (a := 1001) (as' := [.int a0, .int a1]) (r := [.int 0, .ref 1044]) (v := some (.int 1)) (h1 := am_h w1 g1) (pc' := 8) rfl rfl rfl rfl (am_wf 1 (by decide) h1) rfl rfl (c) rfl ?_
  refine am_R.ites 1 (P := 1 = 0) (T := 15) (F := 11) (lv' := [some (.ref 1001), some (.int a0), some (.int a1), some (.ref 1044), none]) (st' := [.int 0, .ref 1044]) (h1 := am_h w1 g1) rfl (fun c1 => ?_) (fun c1 => ?_)
  · exact absurd c1 (by decide)
  · refine am_R.nxs 2 (pc' := 16) (lv' := [some (.ref 1001), some (.int a0), some (.int a1), some (.ref 1044), none]) (st' := [.long 1, .int 0, .ref 1044]) (h1 := am_h w1 g1) rfl ?_
    refine am_R.stl (v := 1) (pc' := 17) rfl (am_wf 44 (by decide) e44) (am_ws (k := 44) (by decide) (by decide)) rfl ?_
    refine am_R.nxs 2 (pc' := 29) (lv' := [some (.ref 1001), some (.int a0), some (.int a1), some (.ref 1044), none]) (st' := [.int 0]) (h1 := am_h (am_pu w1 44 (.inr (3, [.long 1]))) g1) rfl ?_
    exact am_R.reti rfl rfl rfl
theorem aw_W82t8 {w : Nat → am_C} {g : am_H} (d : Nat) {tl pl sp : Nat} (h1 : w 1 = aw_c1 tl pl sp) (a0 a1 : Int32) (c : am_R d 83 0 [some (.ref 1001), some (.int a0), some (.int a1)] [] (am_h w g) (.inr (1000 + (am_h w g).length)) (am_h w (g ++ [.inl (8, [])]))) : am_R (d + 1) 82 0 [some (.ref 1001), some (.int a0), some (.int a1), some (.ref 1044), none] [] (am_h w g) (.inl (some (.int 1))) (am_h w (g ++ [.inl (8, [])])) := by
  refine am_R.nxs 5 (pc' := 5) (lv' := [some (.ref 1001), some (.int a0), some (.int a1), some (.ref 1044), none]) (st' := [.int a1, .int a0, .ref 1001, .int 0, .ref 1044]) (h1 := am_h w g) rfl ?_
  refine am_R.cvc (y := 8) (a := 1001) (as' := [.int a0, .int a1]) (r := [.int 0, .ref 1044]) (pc' := 20) rfl rfl rfl rfl (am_wf 1 (by decide) h1) rfl rfl (c) (aw_thrown) rfl ?_
  refine am_R.nxs 2 (pc' := 23) (lv' := [some (.ref 1001), some (.int a0), some (.int a1), some (.ref 1044), some (.ref (1000 + (am_h w g).length))]) (st' := [.int 1]) (h1 := am_h w (g ++ [.inl (8, [])])) rfl ?_
  exact am_R.reti rfl rfl rfl
theorem aw_W82t9 {w : Nat → am_C} {g : am_H} (d : Nat) {tl pl sp : Nat} (h1 : w 1 = aw_c1 tl pl sp) (a0 a1 : Int32) (c : am_R d 83 0 [some (.ref 1001), some (.int a0), some (.int a1)] [] (am_h w g) (.inr (1000 + (am_h w g).length)) (am_h w (g ++ [.inl (9, [])]))) : am_R (d + 1) 82 0 [some (.ref 1001), some (.int a0), some (.int a1), some (.ref 1044), none] [] (am_h w g) (.inl (some (.int 2))) (am_h w (g ++ [.inl (9, [])])) := by
  refine am_R.nxs 5 (pc' := 5) (lv' := [some (.ref 1001), some (.int a0), some (.int a1), some (.ref 1044), none]) (st' := [.int a1, .int a0, .ref 1001, .int 0, .ref 1044]) (h1 := am_h w g) rfl ?_
  refine am_R.cvc (y := 9) (a := 1001) (as' := [.int a0, .int a1]) (r := [.int 0, .ref 1044]) (pc' := 24) rfl rfl rfl rfl (am_wf 1 (by decide) h1) rfl rfl (c) (aw_thrown) rfl ?_
  refine am_R.nxs 2 (pc' := 27) (lv' := [some (.ref 1001), some (.int a0), some (.int a1), some (.ref 1044), some (.ref (1000 + (am_h w g).length))]) (st' := [.int 2]) (h1 := am_h w (g ++ [.inl (9, [])])) rfl ?_
  exact am_R.reti rfl rfl rfl
theorem aw_tau_inj : ∀ a, a < 37 → ∀ b, b < 37 → aw_tau a = aw_tau b → a = b := by decide
theorem aw_k141n {w : Nat → am_C} {g : am_H} (d : Nat) {ft ty wr wd wt sn : Int32} (h21 : w 21 = aw_c21 ft ty wr wd wt sn) {ma : List Int32} (h27 : w 27 = am_I 0 ma) (l27 : ma.length = 3) {to : List Int32} (h26 : w 26 = am_I 0 to) (l26 : to.length = 360) {k : Nat} (hk : k < 3) {j : Nat} (hj : j < 3) {js js1 : List Nat} (hmk : ma.getD k 0 = Int32.ofNat js.length) (hmj : ma.getD j 0 = Int32.ofNat js1.length) (hl2 : js.length ≤ 120) (hl3 : js1.length ≤ 120) (ht : ∀ z a, js[z]? = some a → a < 37 ∧ to.getD (120 * k + z) 0 = aw_tau a) (ht1 : ∀ z a, js1[z]? = some a → a < 37 ∧ to.getD (120 * j + z) 0 = aw_tau a) (i : Nat) (hi : i < 2 ^ 31) : am_R d 141 39 [some (.ref 1021), some (.int (Int32.ofNat k)), some (.int (Int32.ofNat j)), some (.int 0), some (.int (Int32.ofNat i))] [] (am_h w g) (.inl (some (.int 0))) (am_h w g) := by
  refine am_R.nxs 2 (pc' := 42) (lv' := [some (.ref 1021), some (.int (Int32.ofNat k)), some (.int (Int32.ofNat j)), some (.int 0), some (.int (Int32.ofNat i))]) (st' := [.ref 1021, .int (Int32.ofNat i)]) (h1 := am_h w g) rfl ?_
  refine am_R.gf (pc' := 45) (v := .ref 1027) rfl (am_wf 21 (by decide) h21) rfl rfl rfl ?_
  refine am_R.nxs 1 (pc' := 46) (lv' := [some (.ref 1021), some (.int (Int32.ofNat k)), some (.int (Int32.ofNat j)), some (.int 0), some (.int (Int32.ofNat i))]) (st' := [.int (Int32.ofNat k), .ref 1027, .int (Int32.ofNat i)]) (h1 := am_h w g) rfl ?_
  refine am_R.ldi (i := k) (xs := ma) (pc' := 47) rfl (am_wf 27 (by decide) h27) (by omega) (by omega) rfl ?_
  rw [hmk]
  refine am_R.ites 1 (P := Int32.ofNat js.length ≤ Int32.ofNat i) (T := 93) (F := 50) (lv' := [some (.ref 1021), some (.int (Int32.ofNat k)), some (.int (Int32.ofNat j)), some (.int 0), some (.int (Int32.ofNat i))]) (st' := []) (h1 := am_h w g) rfl (fun b47 => ?_) (fun b47 => ?_)
  · have b47 : js.length ≤ i := (am_leN (i := js.length) (n := i) (by omega) (by omega)).mp b47
    refine am_R.nxs 1 (pc' := 94) (lv' := [some (.ref 1021), some (.int (Int32.ofNat k)), some (.int (Int32.ofNat j)), some (.int 0), some (.int (Int32.ofNat i))]) (st' := [.int 0]) (h1 := am_h w g) rfl ?_
    exact am_R.reti rfl rfl rfl
  · have b47 : ¬ js.length ≤ i := fun hq9 => b47 ((am_leN (i := js.length) (n := i) (by omega) (by omega)).mpr hq9)
    refine am_R.ites 2 (P := 0 = 0) (T := 93) (F := 54) (lv' := [some (.ref 1021), some (.int (Int32.ofNat k)), some (.int (Int32.ofNat j)), some (.int 0), some (.int (Int32.ofNat i))]) (st' := []) (h1 := am_h w g) rfl (fun b51 => ?_) (fun b51 => ?_)
    · refine am_R.nxs 1 (pc' := 94) (lv' := [some (.ref 1021), some (.int (Int32.ofNat k)), some (.int (Int32.ofNat j)), some (.int 0), some (.int (Int32.ofNat i))]) (st' := [.int 0]) (h1 := am_h w g) rfl ?_
      exact am_R.reti rfl rfl rfl
    · exact absurd rfl b51
theorem aw_k141l {w : Nat → am_C} {g : am_H} (d : Nat) {ft ty wr wd wt sn : Int32} (h21 : w 21 = aw_c21 ft ty wr wd wt sn) {ma : List Int32} (h27 : w 27 = am_I 0 ma) (l27 : ma.length = 3) {to : List Int32} (h26 : w 26 = am_I 0 to) (l26 : to.length = 360) {k : Nat} (hk : k < 3) {j : Nat} (hj : j < 3) {js js1 : List Nat} (hmk : ma.getD k 0 = Int32.ofNat js.length) (hmj : ma.getD j 0 = Int32.ofNat js1.length) (hl2 : js.length ≤ 120) (hl3 : js1.length ≤ 120) (ht : ∀ z a, js[z]? = some a → a < 37 ∧ to.getD (120 * k + z) 0 = aw_tau a) (ht1 : ∀ z a, js1[z]? = some a → a < 37 ∧ to.getD (120 * j + z) 0 = aw_tau a) (hn : js.length = js1.length) : ∀ m i : Nat, i + m = js.length → (∀ z, z < i → js[z]? = js1[z]?) → am_R d 141 39 [some (.ref 1021), some (.int (Int32.ofNat k)), some (.int (Int32.ofNat j)), some (.int 1), some (.int (Int32.ofNat i))] [] (am_h w g) (.inl (some (.int (if js = js1 then 1 else 0)))) (am_h w g) := by
  intro m
  induction m with
  | zero =>
    intro i hi hz
    have hi9 : i = js.length := by omega
    subst hi9
    refine am_R.nxs 2 (pc' := 42) (lv' := [some (.ref 1021), some (.int (Int32.ofNat k)), some (.int (Int32.ofNat j)), some (.int 1), some (.int (Int32.ofNat js.length))]) (st' := [.ref 1021, .int (Int32.ofNat js.length)]) (h1 := am_h w g) rfl ?_
    refine am_R.gf (pc' := 45) (v := .ref 1027) rfl (am_wf 21 (by decide) h21) rfl rfl rfl ?_
    refine am_R.nxs 1 (pc' := 46) (lv' := [some (.ref 1021), some (.int (Int32.ofNat k)), some (.int (Int32.ofNat j)), some (.int 1), some (.int (Int32.ofNat js.length))]) (st' := [.int (Int32.ofNat k), .ref 1027, .int (Int32.ofNat js.length)]) (h1 := am_h w g) rfl ?_
    refine am_R.ldi (i := k) (xs := ma) (pc' := 47) rfl (am_wf 27 (by decide) h27) (by omega) (by omega) rfl ?_
    rw [hmk]
    refine am_R.ites 1 (P := Int32.ofNat js.length ≤ Int32.ofNat js.length) (T := 93) (F := 50) (lv' := [some (.ref 1021), some (.int (Int32.ofNat k)), some (.int (Int32.ofNat j)), some (.int 1), some (.int (Int32.ofNat js.length))]) (st' := []) (h1 := am_h w g) rfl (fun b47 => ?_) (fun b47 => ?_)
    · have b47 : js.length ≤ js.length := (am_leN (i := js.length) (n := js.length) (by omega) (by omega)).mp b47
      refine am_R.nxs 1 (pc' := 94) (lv' := [some (.ref 1021), some (.int (Int32.ofNat k)), some (.int (Int32.ofNat j)), some (.int 1), some (.int (Int32.ofNat js.length))]) (st' := [.int 1]) (h1 := am_h w g) rfl ?_
      rw [if_pos (aw_ext rfl hn.symm hz)]
      exact am_R.reti rfl rfl rfl
    · have b47 : ¬ js.length ≤ js.length := fun hq9 => b47 ((am_leN (i := js.length) (n := js.length) (by omega) (by omega)).mpr hq9)
      omega
  | succ m ih =>
    intro i hi hz
    obtain ⟨a, ha⟩ : ∃ a, js[i]? = some a := ⟨_, List.getElem?_eq_getElem (by omega)⟩
    obtain ⟨a1, ha1⟩ : ∃ a1, js1[i]? = some a1 := ⟨_, List.getElem?_eq_getElem (by omega)⟩
    refine am_R.nxs 2 (pc' := 42) (lv' := [some (.ref 1021), some (.int (Int32.ofNat k)), some (.int (Int32.ofNat j)), some (.int 1), some (.int (Int32.ofNat i))]) (st' := [.ref 1021, .int (Int32.ofNat i)]) (h1 := am_h w g) rfl ?_
    refine am_R.gf (pc' := 45) (v := .ref 1027) rfl (am_wf 21 (by decide) h21) rfl rfl rfl ?_
    refine am_R.nxs 1 (pc' := 46) (lv' := [some (.ref 1021), some (.int (Int32.ofNat k)), some (.int (Int32.ofNat j)), some (.int 1), some (.int (Int32.ofNat i))]) (st' := [.int (Int32.ofNat k), .ref 1027, .int (Int32.ofNat i)]) (h1 := am_h w g) rfl ?_
    refine am_R.ldi (i := k) (xs := ma) (pc' := 47) rfl (am_wf 27 (by decide) h27) (by omega) (by omega) rfl ?_
    rw [hmk]
    refine am_R.ites 1 (P := Int32.ofNat js.length ≤ Int32.ofNat i) (T := 93) (F := 50) (lv' := [some (.ref 1021), some (.int (Int32.ofNat k)), some (.int (Int32.ofNat j)), some (.int 1), some (.int (Int32.ofNat i))]) (st' := []) (h1 := am_h w g) rfl (fun b47 => ?_) (fun b47 => ?_)
    · have b47 : js.length ≤ i := (am_leN (i := js.length) (n := i) (by omega) (by omega)).mp b47
      omega
    · have b47 : ¬ js.length ≤ i := fun hq9 => b47 ((am_leN (i := js.length) (n := i) (by omega) (by omega)).mpr hq9)
      refine am_R.ites 2 (P := 1 = 0) (T := 93) (F := 54) (lv' := [some (.ref 1021), some (.int (Int32.ofNat k)), some (.int (Int32.ofNat j)), some (.int 1), some (.int (Int32.ofNat i))]) (st' := []) (h1 := am_h w g) rfl (fun b51 => ?_) (fun b51 => ?_)
      · exact absurd b51 (by decide)
      · refine am_R.nxs 1 (pc' := 55) (lv' := [some (.ref 1021), some (.int (Int32.ofNat k)), some (.int (Int32.ofNat j)), some (.int 1), some (.int (Int32.ofNat i))]) (st' := [.ref 1021]) (h1 := am_h w g) rfl ?_
        refine am_R.gf (pc' := 58) (v := .ref 1026) rfl (am_wf 21 (by decide) h21) rfl rfl rfl ?_
        refine am_R.nxs 3 (pc' := 62) (lv' := [some (.ref 1021), some (.int (Int32.ofNat k)), some (.int (Int32.ofNat j)), some (.int 1), some (.int (Int32.ofNat i))]) (st' := [.int (120 * Int32.ofNat k), .ref 1026]) (h1 := am_h w g) rfl ?_
        rw [show (120 * Int32.ofNat k : Int32) = Int32.ofNat (120 * k) from am_mul 120 k]
        refine am_R.nxs 2 (pc' := 65) (lv' := [some (.ref 1021), some (.int (Int32.ofNat k)), some (.int (Int32.ofNat j)), some (.int 1), some (.int (Int32.ofNat i))]) (st' := [.int (Int32.ofNat (120 * k) + Int32.ofNat i), .ref 1026]) (h1 := am_h w g) rfl ?_
        rw [show (Int32.ofNat (120 * k) + Int32.ofNat i : Int32) = Int32.ofNat ((120 * k) + i) from am_add (120 * k) i]
        refine am_R.ldi (i := ((120 * k) + i)) (xs := to) (pc' := 66) rfl (am_wf 26 (by decide) h26) (by omega) (by omega) rfl ?_
        refine am_R.nxs 1 (pc' := 67) (lv' := [some (.ref 1021), some (.int (Int32.ofNat k)), some (.int (Int32.ofNat j)), some (.int 1), some (.int (Int32.ofNat i))]) (st' := [.ref 1021, .int (to.getD ((120 * k) + i) 0)]) (h1 := am_h w g) rfl ?_
        refine am_R.gf (pc' := 70) (v := .ref 1026) rfl (am_wf 21 (by decide) h21) rfl rfl rfl ?_
        refine am_R.nxs 3 (pc' := 74) (lv' := [some (.ref 1021), some (.int (Int32.ofNat k)), some (.int (Int32.ofNat j)), some (.int 1), some (.int (Int32.ofNat i))]) (st' := [.int (120 * Int32.ofNat j), .ref 1026, .int (to.getD ((120 * k) + i) 0)]) (h1 := am_h w g) rfl ?_
        rw [show (120 * Int32.ofNat j : Int32) = Int32.ofNat (120 * j) from am_mul 120 j]
        refine am_R.nxs 2 (pc' := 77) (lv' := [some (.ref 1021), some (.int (Int32.ofNat k)), some (.int (Int32.ofNat j)), some (.int 1), some (.int (Int32.ofNat i))]) (st' := [.int (Int32.ofNat (120 * j) + Int32.ofNat i), .ref 1026, .int (to.getD ((120 * k) + i) 0)]) (h1 := am_h w g) rfl ?_
        rw [show (Int32.ofNat (120 * j) + Int32.ofNat i : Int32) = Int32.ofNat ((120 * j) + i) from am_add (120 * j) i]
        refine am_R.ldi (i := ((120 * j) + i)) (xs := to) (pc' := 78) rfl (am_wf 26 (by decide) h26) (by omega) (by omega) rfl ?_
        refine am_R.ites 1 (P := ¬ (to.getD ((120 * k) + i) 0) = (to.getD ((120 * j) + i) 0)) (T := 85) (F := 81) (lv' := [some (.ref 1021), some (.int (Int32.ofNat k)), some (.int (Int32.ofNat j)), some (.int 1), some (.int (Int32.ofNat i))]) (st' := []) (h1 := am_h w g) rfl (fun b78 => ?_) (fun b78 => ?_)
        · refine am_R.nxs 3 (pc' := 90) (lv' := [some (.ref 1021), some (.int (Int32.ofNat k)), some (.int (Int32.ofNat j)), some (.int 0), some (.int (Int32.ofNat i + 1))]) (st' := []) (h1 := am_h w g) rfl ?_
          rw [show (Int32.ofNat i + 1 : Int32) = Int32.ofNat (i + 1) from am_add i 1]
          refine am_R.nxs 1 (pc' := 39) (lv' := [some (.ref 1021), some (.int (Int32.ofNat k)), some (.int (Int32.ofNat j)), some (.int 0), some (.int (Int32.ofNat (i + 1)))]) (st' := []) (h1 := am_h w g) rfl ?_
          rw [if_neg (fun z => b78 (by rw [(ht i a ha).2, (ht1 i a1 ha1).2]; rw [z] at ha; rw [Option.some.inj (ha.symm.trans ha1)]))]
          exact aw_k141n d h21 h27 l27 h26 l26 hk hj hmk hmj hl2 hl3 ht ht1 (i + 1) (by omega)
        · refine am_R.nxs 4 (pc' := 90) (lv' := [some (.ref 1021), some (.int (Int32.ofNat k)), some (.int (Int32.ofNat j)), some (.int 1), some (.int (Int32.ofNat i + 1))]) (st' := []) (h1 := am_h w g) rfl ?_
          rw [show (Int32.ofNat i + 1 : Int32) = Int32.ofNat (i + 1) from am_add i 1]
          refine am_R.nxs 1 (pc' := 39) (lv' := [some (.ref 1021), some (.int (Int32.ofNat k)), some (.int (Int32.ofNat j)), some (.int 1), some (.int (Int32.ofNat (i + 1)))]) (st' := []) (h1 := am_h w g) rfl ?_
          refine ih (i + 1) (by omega) (fun z hz9 => ?_)
          by_cases hki : z = i
          · subst hki
            have e := Decidable.not_not.mp b78
            rw [(ht z a ha).2, (ht1 z a1 ha1).2] at e
            rw [ha, ha1, aw_tau_inj a (ht z a ha).1 a1 (ht1 z a1 ha1).1 e]
          · exact hz z (by omega)
theorem aw_k141a {w : Nat → am_C} {g : am_H} (d : Nat) {ft ty wr wd wt sn : Int32} (h21 : w 21 = aw_c21 ft ty wr wd wt sn) {ma : List Int32} (h27 : w 27 = am_I 0 ma) (l27 : ma.length = 3) {to : List Int32} (h26 : w 26 = am_I 0 to) (l26 : to.length = 360) {k : Nat} (hk : k < 3) {j : Nat} (hj : j < 3) {js js1 : List Nat} (hmk : ma.getD k 0 = Int32.ofNat js.length) (hmj : ma.getD j 0 = Int32.ofNat js1.length) (hl2 : js.length ≤ 120) (hl3 : js1.length ≤ 120) (ht : ∀ z a, js[z]? = some a → a < 37 ∧ to.getD (120 * k + z) 0 = aw_tau a) (ht1 : ∀ z a, js1[z]? = some a → a < 37 ∧ to.getD (120 * j + z) 0 = aw_tau a) (hm : ¬ ma.getD k 0 = 0) (hm1 : ¬ ma.getD j 0 = 0) : am_R (d + 1) 141 0 [some (.ref 1021), some (.int (Int32.ofNat k)), some (.int (Int32.ofNat j)), none, none] [] (am_h w g) (.inl (some (.int (if js = js1 then 1 else 0)))) (am_h (am_pu w 21 (aw_c21 0 ty wr wd wt sn)) g) := by
  refine am_R.nxs 4 (pc' := 4) (lv' := [some (.ref 1021), some (.int (Int32.ofNat k)), some (.int (Int32.ofNat j)), none, none]) (st' := [.int (Int32.ofNat j), .int (Int32.ofNat k), .ref 1021, .ref 1021]) (h1 := am_h w g) rfl ?_
  refine am_R.cv (a := 1021) (as' := [.int (Int32.ofNat k), .int (Int32.ofNat j)]) (r := [.ref 1021]) (v := some (.int 0)) (h1 := am_h w g) (pc' := 7) rfl rfl rfl rfl (am_wf 21 (by decide) h21) rfl rfl (aw_k137a d h21 h27 l27 hk hj hm hm1) rfl ?_
  refine am_R.cv (a := 1021) (as' := [.int 0]) (r := []) (v := some (.int 0)) (h1 := am_h (am_pu w 21 (aw_c21 0 ty wr wd wt sn)) g) (pc' := 10) rfl rfl rfl rfl (am_wf 21 (by decide) h21) rfl rfl (aw_k99a (w := w) d h21 0 (by decide)) rfl ?_
  refine am_R.ites 1 (P := 0 = 0) (T := 15) (F := 13) (lv' := [some (.ref 1021), some (.int (Int32.ofNat k)), some (.int (Int32.ofNat j)), none, none]) (st' := []) (h1 := am_h (am_pu w 21 (aw_c21 0 ty wr wd wt sn)) g) rfl (fun b10 => ?_) (fun b10 => ?_)
  · refine am_R.nxs 1 (pc' := 16) (lv' := [some (.ref 1021), some (.int (Int32.ofNat k)), some (.int (Int32.ofNat j)), none, none]) (st' := [.ref 1021]) (h1 := am_h (am_pu w 21 (aw_c21 0 ty wr wd wt sn)) g) rfl ?_
    refine am_R.gf (pc' := 19) (v := .ref 1027) rfl (am_wf 21 (by decide) (rfl : (am_pu w 21 (aw_c21 0 ty wr wd wt sn)) 21 = _)) rfl rfl rfl ?_
    refine am_R.nxs 1 (pc' := 20) (lv' := [some (.ref 1021), some (.int (Int32.ofNat k)), some (.int (Int32.ofNat j)), none, none]) (st' := [.int (Int32.ofNat k), .ref 1027]) (h1 := am_h (am_pu w 21 (aw_c21 0 ty wr wd wt sn)) g) rfl ?_
    refine am_R.ldi (i := k) (xs := ma) (pc' := 21) rfl (am_wf 27 (by decide) h27) (by omega) (by omega) rfl ?_
    rw [hmk]
    refine am_R.nxs 1 (pc' := 22) (lv' := [some (.ref 1021), some (.int (Int32.ofNat k)), some (.int (Int32.ofNat j)), none, none]) (st' := [.ref 1021, .int (Int32.ofNat js.length)]) (h1 := am_h (am_pu w 21 (aw_c21 0 ty wr wd wt sn)) g) rfl ?_
    refine am_R.gf (pc' := 25) (v := .ref 1027) rfl (am_wf 21 (by decide) (rfl : (am_pu w 21 (aw_c21 0 ty wr wd wt sn)) 21 = _)) rfl rfl rfl ?_
    refine am_R.nxs 1 (pc' := 26) (lv' := [some (.ref 1021), some (.int (Int32.ofNat k)), some (.int (Int32.ofNat j)), none, none]) (st' := [.int (Int32.ofNat j), .ref 1027, .int (Int32.ofNat js.length)]) (h1 := am_h (am_pu w 21 (aw_c21 0 ty wr wd wt sn)) g) rfl ?_
    refine am_R.ldi (i := j) (xs := ma) (pc' := 27) rfl (am_wf 27 (by decide) h27) (by omega) (by omega) rfl ?_
    rw [hmj]
    refine am_R.ites 1 (P := ¬ Int32.ofNat js.length = Int32.ofNat js1.length) (T := 34) (F := 30) (lv' := [some (.ref 1021), some (.int (Int32.ofNat k)), some (.int (Int32.ofNat j)), none, none]) (st' := []) (h1 := am_h (am_pu w 21 (aw_c21 0 ty wr wd wt sn)) g) rfl (fun b27 => ?_) (fun b27 => ?_)
    · have b27 : ¬ js.length = js1.length := fun hq9 => b27 ((am_eqN (i := js.length) (n := js1.length) (by omega) (by omega)).mpr hq9)
      refine am_R.nxs 4 (pc' := 39) (lv' := [some (.ref 1021), some (.int (Int32.ofNat k)), some (.int (Int32.ofNat j)), some (.int 0), some (.int 0)]) (st' := []) (h1 := am_h (am_pu w 21 (aw_c21 0 ty wr wd wt sn)) g) rfl ?_
      rw [if_neg (fun z => b27 (by rw [z]))]
      exact aw_k141n (w := am_pu w 21 (aw_c21 0 ty wr wd wt sn)) (d + 1) rfl h27 l27 h26 l26 hk hj hmk hmj hl2 hl3 ht ht1 0 (by decide)
    · have b27 : js.length = js1.length := (am_eqN (i := js.length) (n := js1.length) (by omega) (by omega)).mp (Decidable.not_not.mp b27)
      refine am_R.nxs 5 (pc' := 39) (lv' := [some (.ref 1021), some (.int (Int32.ofNat k)), some (.int (Int32.ofNat j)), some (.int 1), some (.int 0)]) (st' := []) (h1 := am_h (am_pu w 21 (aw_c21 0 ty wr wd wt sn)) g) rfl ?_
      exact aw_k141l (w := am_pu w 21 (aw_c21 0 ty wr wd wt sn)) (d + 1) rfl h27 l27 h26 l26 hk hj hmk hmj hl2 hl3 ht ht1 b27 js.length 0 (Nat.zero_add _) (fun z hz => absurd hz (Nat.not_lt_zero z))
  · exact absurd rfl b10
theorem aw_k141b {w : Nat → am_C} {g : am_H} (d : Nat) {ft ty wr wd wt sn : Int32} (h21 : w 21 = aw_c21 ft ty wr wd wt sn) {ma : List Int32} (h27 : w 27 = am_I 0 ma) (l27 : ma.length = 3) {k : Nat} (hk : k < 3) {j : Nat} (hj : j < 3) (hm : ma.getD k 0 = 0) : am_R (d + 1) 141 0 [some (.ref 1021), some (.int (Int32.ofNat k)), some (.int (Int32.ofNat j)), none, none] [] (am_h w g) (.inl (some (.int 0))) (am_h (am_pu w 21 (aw_c21 2 ty wr wd wt sn)) g) := by
  refine am_R.nxs 4 (pc' := 4) (lv' := [some (.ref 1021), some (.int (Int32.ofNat k)), some (.int (Int32.ofNat j)), none, none]) (st' := [.int (Int32.ofNat j), .int (Int32.ofNat k), .ref 1021, .ref 1021]) (h1 := am_h w g) rfl ?_
  refine am_R.cv (a := 1021) (as' := [.int (Int32.ofNat k), .int (Int32.ofNat j)]) (r := [.ref 1021]) (v := some (.int 2)) (h1 := am_h w g) (pc' := 7) rfl rfl rfl rfl (am_wf 21 (by decide) h21) rfl rfl (aw_k137b d h21 h27 l27 hk hj hm) rfl ?_
  refine am_R.cv (a := 1021) (as' := [.int 2]) (r := []) (v := some (.int 1)) (h1 := am_h (am_pu w 21 (aw_c21 2 ty wr wd wt sn)) g) (pc' := 10) rfl rfl rfl rfl (am_wf 21 (by decide) h21) rfl rfl (aw_k99b (w := w) d h21 2 (by decide)) rfl ?_
  refine am_R.ites 1 (P := 1 = 0) (T := 15) (F := 13) (lv' := [some (.ref 1021), some (.int (Int32.ofNat k)), some (.int (Int32.ofNat j)), none, none]) (st' := []) (h1 := am_h (am_pu w 21 (aw_c21 2 ty wr wd wt sn)) g) rfl (fun b10 => ?_) (fun b10 => ?_)
  · exact absurd b10 (by decide)
  · refine am_R.nxs 1 (pc' := 14) (lv' := [some (.ref 1021), some (.int (Int32.ofNat k)), some (.int (Int32.ofNat j)), none, none]) (st' := [.int 0]) (h1 := am_h (am_pu w 21 (aw_c21 2 ty wr wd wt sn)) g) rfl ?_
    exact am_R.reti rfl rfl rfl
theorem aw_k141f {w : Nat → am_C} {g : am_H} (d : Nat) {ft ty wr wd wt sn : Int32} (h21 : w 21 = aw_c21 ft ty wr wd wt sn) {ma : List Int32} (h27 : w 27 = am_I 0 ma) (l27 : ma.length = 3) {k : Nat} (hk : k < 3) {j : Nat} (hj : j < 3) (hm : ¬ ma.getD k 0 = 0) (hm1 : ma.getD j 0 = 0) : am_R (d + 1) 141 0 [some (.ref 1021), some (.int (Int32.ofNat k)), some (.int (Int32.ofNat j)), none, none] [] (am_h w g) (.inl (some (.int 0))) (am_h (am_pu w 21 (aw_c21 2 ty wr wd wt sn)) g) := by
  refine am_R.nxs 4 (pc' := 4) (lv' := [some (.ref 1021), some (.int (Int32.ofNat k)), some (.int (Int32.ofNat j)), none, none]) (st' := [.int (Int32.ofNat j), .int (Int32.ofNat k), .ref 1021, .ref 1021]) (h1 := am_h w g) rfl ?_
  refine am_R.cv (a := 1021) (as' := [.int (Int32.ofNat k), .int (Int32.ofNat j)]) (r := [.ref 1021]) (v := some (.int 2)) (h1 := am_h w g) (pc' := 7) rfl rfl rfl rfl (am_wf 21 (by decide) h21) rfl rfl (aw_k137f d h21 h27 l27 hk hj hm hm1) rfl ?_
  refine am_R.cv (a := 1021) (as' := [.int 2]) (r := []) (v := some (.int 1)) (h1 := am_h (am_pu w 21 (aw_c21 2 ty wr wd wt sn)) g) (pc' := 10) rfl rfl rfl rfl (am_wf 21 (by decide) h21) rfl rfl (aw_k99b (w := w) d h21 2 (by decide)) rfl ?_
  refine am_R.ites 1 (P := 1 = 0) (T := 15) (F := 13) (lv' := [some (.ref 1021), some (.int (Int32.ofNat k)), some (.int (Int32.ofNat j)), none, none]) (st' := []) (h1 := am_h (am_pu w 21 (aw_c21 2 ty wr wd wt sn)) g) rfl (fun b10 => ?_) (fun b10 => ?_)
  · exact absurd b10 (by decide)
  · refine am_R.nxs 1 (pc' := 14) (lv' := [some (.ref 1021), some (.int (Int32.ofNat k)), some (.int (Int32.ofNat j)), none, none]) (st' := [.int 0]) (h1 := am_h (am_pu w 21 (aw_c21 2 ty wr wd wt sn)) g) rfl ?_
    exact am_R.reti rfl rfl rfl
theorem aw_k141c {w : Nat → am_C} {g : am_H} (d : Nat) {ft ty wr wd wt sn : Int32} (h21 : w 21 = aw_c21 ft ty wr wd wt sn) {s t : Int32} (hs : (s < 0 ∨ ¬ s < 3) ∨ (t < 0 ∨ ¬ t < 3)) : am_R (d + 1) 141 0 [some (.ref 1021), some (.int s), some (.int t), none, none] [] (am_h w g) (.inl (some (.int 0))) (am_h (am_pu w 21 (aw_c21 1 ty wr wd wt sn)) g) := by
  refine am_R.nxs 4 (pc' := 4) (lv' := [some (.ref 1021), some (.int s), some (.int t), none, none]) (st' := [.int t, .int s, .ref 1021, .ref 1021]) (h1 := am_h w g) rfl ?_
  refine am_R.cv (a := 1021) (as' := [.int s, .int t]) (r := [.ref 1021]) (v := some (.int 1)) (h1 := am_h w g) (pc' := 7) rfl rfl rfl rfl (am_wf 21 (by decide) h21) rfl rfl (aw_k137c d h21 hs) rfl ?_
  refine am_R.cv (a := 1021) (as' := [.int 1]) (r := []) (v := some (.int 1)) (h1 := am_h (am_pu w 21 (aw_c21 1 ty wr wd wt sn)) g) (pc' := 10) rfl rfl rfl rfl (am_wf 21 (by decide) h21) rfl rfl (aw_k99b (w := w) d h21 1 (by decide)) rfl ?_
  refine am_R.ites 1 (P := 1 = 0) (T := 15) (F := 13) (lv' := [some (.ref 1021), some (.int s), some (.int t), none, none]) (st' := []) (h1 := am_h (am_pu w 21 (aw_c21 1 ty wr wd wt sn)) g) rfl (fun b10 => ?_) (fun b10 => ?_)
  · exact absurd b10 (by decide)
  · refine am_R.nxs 1 (pc' := 14) (lv' := [some (.ref 1021), some (.int s), some (.int t), none, none]) (st' := [.int 0]) (h1 := am_h (am_pu w 21 (aw_c21 1 ty wr wd wt sn)) g) rfl ?_
    exact am_R.reti rfl rfl rfl
set_option maxRecDepth 100000 in
theorem aw_L10b0 {w w1 w2 : Nat → am_C} {g g1 g2 : am_H} (d i : Nat) (x5 x6 : Option Value) {xs : List Int32} (h0 : w 0 = am_I 0 xs) (hi : i + 4 ≤ xs.length) (hx : xs.length ≤ 2048) {c : Int32} (hw : am_R (d + 39) 82 0 [some (.ref 1001), some (.int (xs.getD (i + 1) 0)), some (.int (xs.getD (i + 2) 0)), some (.ref 1044), none] [] (am_h w g) (.inl (some (.int c))) (am_h w1 g1)) (e0 : w1 0 = am_I 0 xs) {f1 f2 f3 f4 f5 f6 : Int32} (e21 : w1 21 = aw_c21 f1 f2 f3 f4 f5 f6) (hm : am_R (d + 39) 141 0 [some (.ref 1021), some (.int (xs.getD (i + 1) 0)), some (.int (xs.getD (i + 2) 0)), none, none] [] (am_h w1 g1) (.inl (some (.int 0))) (am_h w2 g2)) {ty wr wd wt sn : Int32} (h21 : w2 21 = aw_c21 c ty wr wd wt sn) (ho : c = 0 → w2 44 = .inr (3, [.long 0])) {o : am_O} {h' : am_H} (K : am_R (d + 40) 0 921 (aw_lv i (some (.int c)) (some (.int 0))) [] (am_h w2 g2) o h') : am_R (d + 40) 0 696 (aw_lv i x5 x6) [] (am_h w g) o h' := by
  refine am_R.nxs 5 (pc' := 702) (lv' := [some (.ref 1000), some (.ref 1001), some (.ref 1021), some (.ref 1044), some (.int (Int32.ofNat i)), x5, x6]) (st' := [.int (Int32.ofNat i + 1), .ref 1000, .ref 1001]) (h1 := am_h w g) rfl ?_
  rw [show (Int32.ofNat i + 1 : Int32) = Int32.ofNat (i + 1) from am_add i 1]
  refine am_R.ldi (i := (i + 1)) (xs := xs) (pc' := 703) rfl (am_wf 0 (by decide) h0) (by omega) (by omega) rfl ?_
  refine am_R.nxs 4 (pc' := 708) (lv' := [some (.ref 1000), some (.ref 1001), some (.ref 1021), some (.ref 1044), some (.int (Int32.ofNat i)), x5, x6]) (st' := [.int (Int32.ofNat i + 2), .ref 1000, .int (xs.getD (i + 1) 0), .ref 1001]) (h1 := am_h w g) rfl ?_
  rw [show (Int32.ofNat i + 2 : Int32) = Int32.ofNat (i + 2) from am_add i 2]
  refine am_R.ldi (i := (i + 2)) (xs := xs) (pc' := 709) rfl (am_wf 0 (by decide) h0) (by omega) (by omega) rfl ?_
  refine am_R.nxs 1 (pc' := 710) (lv' := [some (.ref 1000), some (.ref 1001), some (.ref 1021), some (.ref 1044), some (.int (Int32.ofNat i)), x5, x6]) (st' := [.ref 1044, .int (xs.getD (i + 2) 0), .int (xs.getD (i + 1) 0), .ref 1001]) (h1 := am_h w g) rfl ?_
  refine am_R.cs (mj := 82) (as := [.ref 1001, .int (xs.getD (i + 1) 0), .int (xs.getD (i + 2) 0), .ref 1044]) (r := []) (v := some (.int c)) (h1 := am_h w1 g1) (pc' := 713) rfl (hw) rfl ?_
  refine am_R.nxs 6 (pc' := 721) (lv' := [some (.ref 1000), some (.ref 1001), some (.ref 1021), some (.ref 1044), some (.int (Int32.ofNat i)), some (.int c), x6]) (st' := [.int (Int32.ofNat i + 1), .ref 1000, .ref 1021]) (h1 := am_h w1 g1) rfl ?_
  rw [show (Int32.ofNat i + 1 : Int32) = Int32.ofNat (i + 1) from am_add i 1]
  refine am_R.ldi (i := (i + 1)) (xs := xs) (pc' := 722) rfl (am_wf 0 (by decide) e0) (by omega) (by omega) rfl ?_
  refine am_R.nxs 4 (pc' := 727) (lv' := [some (.ref 1000), some (.ref 1001), some (.ref 1021), some (.ref 1044), some (.int (Int32.ofNat i)), some (.int c), x6]) (st' := [.int (Int32.ofNat i + 2), .ref 1000, .int (xs.getD (i + 1) 0), .ref 1021]) (h1 := am_h w1 g1) rfl ?_
  rw [show (Int32.ofNat i + 2 : Int32) = Int32.ofNat (i + 2) from am_add i 2]
  refine am_R.ldi (i := (i + 2)) (xs := xs) (pc' := 728) rfl (am_wf 0 (by decide) e0) (by omega) (by omega) rfl ?_
  refine am_R.cv (a := 1021) (as' := [.int (xs.getD (i + 1) 0), .int (xs.getD (i + 2) 0)]) (r := []) (v := some (.int 0)) (h1 := am_h w2 g2) (pc' := 731) rfl rfl rfl rfl (am_wf 21 (by decide) e21) rfl rfl (hm) rfl ?_
  refine am_R.nxs 2 (pc' := 734) (lv' := [some (.ref 1000), some (.ref 1001), some (.ref 1021), some (.ref 1044), some (.int (Int32.ofNat i)), some (.int c), some (.int 0)]) (st' := [.ref 1021]) (h1 := am_h w2 g2) rfl ?_
  refine am_R.cv (a := 1021) (as' := []) (r := []) (v := some (.int c)) (h1 := am_h w2 g2) (pc' := 737) rfl rfl rfl rfl (am_wf 21 (by decide) h21) rfl rfl (aw_k95 (w := w2) (d + 39) h21) rfl ?_
  refine am_R.ites 2 (P := c = c) (T := 744) (F := 742) (lv' := [some (.ref 1000), some (.ref 1001), some (.ref 1021), some (.ref 1044), some (.int (Int32.ofNat i)), some (.int c), some (.int 0)]) (st' := []) (h1 := am_h w2 g2) rfl (fun b739 => ?_) (fun b739 => ?_)
  · refine am_R.ites 2 (P := ¬ c = 0) (T := 768) (F := 749) (lv' := [some (.ref 1000), some (.ref 1001), some (.ref 1021), some (.ref 1044), some (.int (Int32.ofNat i)), some (.int c), some (.int 0)]) (st' := []) (h1 := am_h w2 g2) rfl (fun b746 => ?_) (fun b746 => ?_)
    · refine am_R.nxs 1 (pc' := 921) (lv' := [some (.ref 1000), some (.ref 1001), some (.ref 1021), some (.ref 1044), some (.int (Int32.ofNat i)), some (.int c), some (.int 0)]) (st' := []) (h1 := am_h w2 g2) rfl ?_
      exact K
    · refine am_R.nxs 2 (pc' := 751) (lv' := [some (.ref 1000), some (.ref 1001), some (.ref 1021), some (.ref 1044), some (.int (Int32.ofNat i)), some (.int c), some (.int 0)]) (st' := [.int 0, .ref 1044]) (h1 := am_h w2 g2) rfl ?_
      refine am_R.ldl (x := 0) (pc' := 752) rfl (am_wf 44 (by decide) (ho (Decidable.not_not.mp b746))) rfl ?_
      refine am_R.ites 2 (P := 0 = 0) (T := 761) (F := 757) (lv' := [some (.ref 1000), some (.ref 1001), some (.ref 1021), some (.ref 1044), some (.int (Int32.ofNat i)), some (.int c), some (.int 0)]) (st' := [.long 0]) (h1 := am_h w2 g2) rfl (fun b754 => ?_) (fun b754 => ?_)
      · refine am_R.ites 3 (P := (lg_cmp 0 0) = 0) (T := 768) (F := 766) (lv' := [some (.ref 1000), some (.ref 1001), some (.ref 1021), some (.ref 1044), some (.int (Int32.ofNat i)), some (.int c), some (.int 0)]) (st' := []) (h1 := am_h w2 g2) rfl (fun b763 => ?_) (fun b763 => ?_)
        · refine am_R.nxs 1 (pc' := 921) (lv' := [some (.ref 1000), some (.ref 1001), some (.ref 1021), some (.ref 1044), some (.int (Int32.ofNat i)), some (.int c), some (.int 0)]) (st' := []) (h1 := am_h w2 g2) rfl ?_
          exact K
        · exact absurd (aw_cmp _) b763
      · exact absurd rfl b754
  · exact absurd rfl b739
set_option maxRecDepth 100000 in
theorem aw_L10b1 {w w1 w2 : Nat → am_C} {g g1 g2 : am_H} (d i : Nat) (x5 x6 : Option Value) {xs : List Int32} (h0 : w 0 = am_I 0 xs) (hi : i + 4 ≤ xs.length) (hx : xs.length ≤ 2048) {c : Int32} (hw : am_R (d + 39) 82 0 [some (.ref 1001), some (.int (xs.getD (i + 1) 0)), some (.int (xs.getD (i + 2) 0)), some (.ref 1044), none] [] (am_h w g) (.inl (some (.int c))) (am_h w1 g1)) (e0 : w1 0 = am_I 0 xs) {f1 f2 f3 f4 f5 f6 : Int32} (e21 : w1 21 = aw_c21 f1 f2 f3 f4 f5 f6) (hm : am_R (d + 39) 141 0 [some (.ref 1021), some (.int (xs.getD (i + 1) 0)), some (.int (xs.getD (i + 2) 0)), none, none] [] (am_h w1 g1) (.inl (some (.int 1))) (am_h w2 g2)) {ty wr wd wt sn : Int32} (h21 : w2 21 = aw_c21 c ty wr wd wt sn) (ho : c = 0 → w2 44 = .inr (3, [.long 1])) {o : am_O} {h' : am_H} (K : am_R (d + 40) 0 921 (aw_lv i (some (.int c)) (some (.int 1))) [] (am_h w2 g2) o h') : am_R (d + 40) 0 696 (aw_lv i x5 x6) [] (am_h w g) o h' := by
  refine am_R.nxs 5 (pc' := 702) (lv' := [some (.ref 1000), some (.ref 1001), some (.ref 1021), some (.ref 1044), some (.int (Int32.ofNat i)), x5, x6]) (st' := [.int (Int32.ofNat i + 1), .ref 1000, .ref 1001]) (h1 := am_h w g) rfl ?_
  rw [show (Int32.ofNat i + 1 : Int32) = Int32.ofNat (i + 1) from am_add i 1]
  refine am_R.ldi (i := (i + 1)) (xs := xs) (pc' := 703) rfl (am_wf 0 (by decide) h0) (by omega) (by omega) rfl ?_
  refine am_R.nxs 4 (pc' := 708) (lv' := [some (.ref 1000), some (.ref 1001), some (.ref 1021), some (.ref 1044), some (.int (Int32.ofNat i)), x5, x6]) (st' := [.int (Int32.ofNat i + 2), .ref 1000, .int (xs.getD (i + 1) 0), .ref 1001]) (h1 := am_h w g) rfl ?_
  rw [show (Int32.ofNat i + 2 : Int32) = Int32.ofNat (i + 2) from am_add i 2]
  refine am_R.ldi (i := (i + 2)) (xs := xs) (pc' := 709) rfl (am_wf 0 (by decide) h0) (by omega) (by omega) rfl ?_
  refine am_R.nxs 1 (pc' := 710) (lv' := [some (.ref 1000), some (.ref 1001), some (.ref 1021), some (.ref 1044), some (.int (Int32.ofNat i)), x5, x6]) (st' := [.ref 1044, .int (xs.getD (i + 2) 0), .int (xs.getD (i + 1) 0), .ref 1001]) (h1 := am_h w g) rfl ?_
  refine am_R.cs (mj := 82) (as := [.ref 1001, .int (xs.getD (i + 1) 0), .int (xs.getD (i + 2) 0), .ref 1044]) (r := []) (v := some (.int c)) (h1 := am_h w1 g1) (pc' := 713) rfl (hw) rfl ?_
  refine am_R.nxs 6 (pc' := 721) (lv' := [some (.ref 1000), some (.ref 1001), some (.ref 1021), some (.ref 1044), some (.int (Int32.ofNat i)), some (.int c), x6]) (st' := [.int (Int32.ofNat i + 1), .ref 1000, .ref 1021]) (h1 := am_h w1 g1) rfl ?_
  rw [show (Int32.ofNat i + 1 : Int32) = Int32.ofNat (i + 1) from am_add i 1]
  refine am_R.ldi (i := (i + 1)) (xs := xs) (pc' := 722) rfl (am_wf 0 (by decide) e0) (by omega) (by omega) rfl ?_
  refine am_R.nxs 4 (pc' := 727) (lv' := [some (.ref 1000), some (.ref 1001), some (.ref 1021), some (.ref 1044), some (.int (Int32.ofNat i)), some (.int c), x6]) (st' := [.int (Int32.ofNat i + 2), .ref 1000, .int (xs.getD (i + 1) 0), .ref 1021]) (h1 := am_h w1 g1) rfl ?_
  rw [show (Int32.ofNat i + 2 : Int32) = Int32.ofNat (i + 2) from am_add i 2]
  refine am_R.ldi (i := (i + 2)) (xs := xs) (pc' := 728) rfl (am_wf 0 (by decide) e0) (by omega) (by omega) rfl ?_
  refine am_R.cv (a := 1021) (as' := [.int (xs.getD (i + 1) 0), .int (xs.getD (i + 2) 0)]) (r := []) (v := some (.int 1)) (h1 := am_h w2 g2) (pc' := 731) rfl rfl rfl rfl (am_wf 21 (by decide) e21) rfl rfl (hm) rfl ?_
  refine am_R.nxs 2 (pc' := 734) (lv' := [some (.ref 1000), some (.ref 1001), some (.ref 1021), some (.ref 1044), some (.int (Int32.ofNat i)), some (.int c), some (.int 1)]) (st' := [.ref 1021]) (h1 := am_h w2 g2) rfl ?_
  refine am_R.cv (a := 1021) (as' := []) (r := []) (v := some (.int c)) (h1 := am_h w2 g2) (pc' := 737) rfl rfl rfl rfl (am_wf 21 (by decide) h21) rfl rfl (aw_k95 (w := w2) (d + 39) h21) rfl ?_
  refine am_R.ites 2 (P := c = c) (T := 744) (F := 742) (lv' := [some (.ref 1000), some (.ref 1001), some (.ref 1021), some (.ref 1044), some (.int (Int32.ofNat i)), some (.int c), some (.int 1)]) (st' := []) (h1 := am_h w2 g2) rfl (fun b739 => ?_) (fun b739 => ?_)
  · refine am_R.ites 2 (P := ¬ c = 0) (T := 768) (F := 749) (lv' := [some (.ref 1000), some (.ref 1001), some (.ref 1021), some (.ref 1044), some (.int (Int32.ofNat i)), some (.int c), some (.int 1)]) (st' := []) (h1 := am_h w2 g2) rfl (fun b746 => ?_) (fun b746 => ?_)
    · refine am_R.nxs 1 (pc' := 921) (lv' := [some (.ref 1000), some (.ref 1001), some (.ref 1021), some (.ref 1044), some (.int (Int32.ofNat i)), some (.int c), some (.int 1)]) (st' := []) (h1 := am_h w2 g2) rfl ?_
      exact K
    · refine am_R.nxs 2 (pc' := 751) (lv' := [some (.ref 1000), some (.ref 1001), some (.ref 1021), some (.ref 1044), some (.int (Int32.ofNat i)), some (.int c), some (.int 1)]) (st' := [.int 0, .ref 1044]) (h1 := am_h w2 g2) rfl ?_
      refine am_R.ldl (x := 1) (pc' := 752) rfl (am_wf 44 (by decide) (ho (Decidable.not_not.mp b746))) rfl ?_
      refine am_R.ites 2 (P := 1 = 0) (T := 761) (F := 757) (lv' := [some (.ref 1000), some (.ref 1001), some (.ref 1021), some (.ref 1044), some (.int (Int32.ofNat i)), some (.int c), some (.int 1)]) (st' := [.long 1]) (h1 := am_h w2 g2) rfl (fun b754 => ?_) (fun b754 => ?_)
      · exact absurd b754 (by decide)
      · refine am_R.ites 4 (P := (lg_cmp 1 1) = 0) (T := 768) (F := 766) (lv' := [some (.ref 1000), some (.ref 1001), some (.ref 1021), some (.ref 1044), some (.int (Int32.ofNat i)), some (.int c), some (.int 1)]) (st' := []) (h1 := am_h w2 g2) rfl (fun b763 => ?_) (fun b763 => ?_)
        · refine am_R.nxs 1 (pc' := 921) (lv' := [some (.ref 1000), some (.ref 1001), some (.ref 1021), some (.ref 1044), some (.int (Int32.ofNat i)), some (.int c), some (.int 1)]) (st' := []) (h1 := am_h w2 g2) rfl ?_
          exact K
        · exact absurd (aw_cmp _) b763
  · exact absurd rfl b739
set_option maxRecDepth 100000 in
theorem aw_o10 : aw_Op 696 := by
  intro d i w g x5 x6 xs hI h0 hi hx
  obtain ⟨tl, pl, sp, ft, wd, wt, sn, h1, h21, hT, hP, hS, hC, u, hO⟩ := hI
  by_cases hs : xs.getD (i + 1) 0 < 0 ∨ ¬ xs.getD (i + 1) 0 < 3
  · refine ⟨am_pu w 21 (aw_c21 1 (Int32.ofNat tl) (Int32.ofNat pl) wd wt sn), g ++ [.inl (8, [])], some (.int 1), some (.int 0), ⟨tl, pl, sp, 1, wd, wt, sn, h1, rfl, hT, hP, aw_Shs_up (by omega) hS, hC, u, hO⟩, h0, by simp, aw_sz1 rfl, fun o h' K => ?_⟩
    exact aw_L10b0 d i x5 x6 h0 hi hx (aw_W82t8 (d + 38) h1 _ _ (aw_k83c (d + 36) h1 _ hs)) h0 h21 (aw_k141c (d + 38) h21 (Or.inl hs)) rfl (fun q => absurd q (by decide)) K
  obtain ⟨k, hk, hke⟩ := aw_sh3 hs
  obtain ⟨rs, r, to, ma, pi, br, bk, co, h4, hl, hr, hrs, ⟨m1, m2, m3, m4, m5, m6, m7, m8, m9, m10, m11, m12⟩, wc, bc, sc, ic, cc, dp, rd, ws, pc, bw, ⟨t1, t2, t3, t4, t5, t6, t7⟩, hsh⟩ := aw_get hS hk
  by_cases ht : xs.getD (i + 2) 0 < 0 ∨ ¬ xs.getD (i + 2) 0 < 3
  · refine ⟨am_pu w 21 (aw_c21 1 (Int32.ofNat tl) (Int32.ofNat pl) wd wt sn), g ++ [.inl (8, [])], some (.int 1), some (.int 0), ⟨tl, pl, sp, 1, wd, wt, sn, h1, rfl, hT, hP, aw_Shs_up (by omega) hS, hC, u, hO⟩, h0, by simp, aw_sz1 rfl, fun o h' K => ?_⟩
    exact aw_L10b0 d i x5 x6 h0 hi hx (aw_W82t8 (d + 38) h1 _ _ (by rw [hke]; exact aw_k83e (d + 36) h1 hk ht)) h0 h21 (aw_k141c (d + 38) h21 (Or.inr ht)) rfl (fun q => absurd q (by decide)) K
  · obtain ⟨j, hj, hje⟩ := aw_sh3 ht
    obtain ⟨rs', q, to', ma', pi', br', bk', co', h4', hl', hq, hqs, ⟨n1, n2, n3, n4, n5, n6, n7, n8, n9, n10, n11, n12⟩, wc1, bc1, sc1, ic1, cc1, dp1, rd1, ws1, pd, bw1, ⟨u1, u2, u3, u4, u5, u6, u7⟩, hsq⟩ := aw_get hS hj
    cases h4.symm.trans h4'
    cases m1.symm.trans n1 |> aw_Iinj
    cases m2.symm.trans n2 |> aw_Iinj
    cases m3.symm.trans n3 |> aw_Iinj
    cases m4.symm.trans n4 |> aw_Iinj
    cases m5.symm.trans n5 |> aw_Iinj
    cases m6.symm.trans n6 |> aw_Iinj
    rcases hsh with ⟨hd, hm⟩ | ⟨hd, js, b, j1, j2, j3, j4, j5, j6, b1, b2, b3, b4, q1, q2, q3, q4, q5⟩
    · refine ⟨am_pu w 21 (aw_c21 2 (Int32.ofNat tl) (Int32.ofNat pl) wd wt sn), g ++ [.inl (9, [])], some (.int 2), some (.int 0), ⟨tl, pl, sp, 2, wd, wt, sn, h1, rfl, hT, hP, aw_Shs_up (by omega) hS, hC, u, hO⟩, h0, by simp, aw_sz1 rfl, fun o h' K => ?_⟩
      exact aw_L10b0 d i x5 x6 h0 hi hx (aw_W82t9 (d + 38) h1 _ _ (by rw [hke, hje]; exact aw_k83b (d + 36) h1 h4 hl hk hr hrs t1 hj hd)) h0 h21 (by rw [hke, hje]; exact aw_k141b (d + 38) h21 m2 m8 hk hj hm) rfl (fun q => absurd q (by decide)) K
    · rcases hsq with ⟨hd1, hm1⟩ | ⟨hd1, js1, b9, k1, k2, k3, k4, k5, k6, -⟩
      · refine ⟨am_pu w 21 (aw_c21 2 (Int32.ofNat tl) (Int32.ofNat pl) wd wt sn), g ++ [.inl (9, [])], some (.int 2), some (.int 0), ⟨tl, pl, sp, 2, wd, wt, sn, h1, rfl, hT, hP, aw_Shs_up (by omega) hS, hC, u, hO⟩, h0, by simp, aw_sz1 rfl, fun o h' K => ?_⟩
        exact aw_L10b0 d i x5 x6 h0 hi hx (aw_W82t9 (d + 38) h1 _ _ (by rw [hke, hje]; exact aw_k83f (d + 36) h1 h4 hl hk hr hrs hj hq hqs t1 u1 hd hd1)) h0 h21 (by rw [hke, hje]; exact aw_k141f (d + 38) h21 m2 m8 hk hj (by rw [j4]; exact aw_nz j1 j2) hm1) rfl (fun q => absurd q (by decide)) K
      · subst j3 k3
        have hA := aw_k83a (g := g) (d + 36) h1 h4 hl hk hr hrs hj hq hqs t1 u1 t2 u2 t5 u5 ⟨j2, fun z a hz => ⟨(j5 z a hz).1, (j5 z a hz).2.1⟩⟩ ⟨k2, fun z a hz => ⟨(k5 z a hz).1, (k5 z a hz).2.1⟩⟩ hd hd1
        have hB := fun (v : Int64) => aw_k141a (w := am_pu w 44 (.inr (3, [.long v]))) (g := g) (d + 38) h21 m2 m8 m1 m7 hk hj j4 k4 j2 k2 (fun z a hz => ⟨(j5 z a hz).1, (j5 z a hz).2.2⟩) (fun z a hz => ⟨(k5 z a hz).1, (k5 z a hz).2.2⟩) (by rw [j4]; exact aw_nz j1 j2) (by rw [k4]; exact aw_nz k1 k2)
        by_cases hjj : js = js1
        · have hB := hB 1
          rw [if_pos hjj] at hA hB
          refine ⟨am_pu (am_pu w 44 (.inr (3, [.long 1]))) 21 (aw_c21 0 (Int32.ofNat tl) (Int32.ofNat pl) wd wt sn), g, some (.int 0), some (.int 1), ⟨tl, pl, sp, 0, wd, wt, sn, h1, rfl, hT, hP, aw_Shs_up (by omega) (aw_Shs_up (by omega) hS), hC, _, rfl⟩, h0, by omega, by omega, fun o h' K => ?_⟩
          exact aw_L10b1 d i x5 x6 h0 hi hx (aw_W82a1 (d + 38) h1 _ _ (by rw [hke, hje]; exact hA) hO) h0 h21 (by rw [hke, hje]; exact hB) rfl (fun _ => rfl) K
        · have hB := hB 0
          rw [if_neg hjj] at hA hB
          refine ⟨am_pu (am_pu w 44 (.inr (3, [.long 0]))) 21 (aw_c21 0 (Int32.ofNat tl) (Int32.ofNat pl) wd wt sn), g, some (.int 0), some (.int 0), ⟨tl, pl, sp, 0, wd, wt, sn, h1, rfl, hT, hP, aw_Shs_up (by omega) (aw_Shs_up (by omega) hS), hC, _, rfl⟩, h0, by omega, by omega, fun o h' K => ?_⟩
          exact aw_L10b0 d i x5 x6 h0 hi hx (aw_W82a0 (d + 38) h1 _ _ (by rw [hke, hje]; exact hA) hO) h0 h21 (by rw [hke, hje]; exact hB) rfl (fun _ => rfl) K
end
