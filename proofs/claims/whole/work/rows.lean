section
-- ===== PART A: goes FIRST, ahead of the names: the tables' words, and 'selects' of the private methods out of them =====
/-- a private method of a class that the tables say can be made, by its rows of tables_1 -/
def lw_okq (q : MethodName × Nat) : Prop := (q.1.cls ≠ "java/lang/invoke/MethodHandle" ∧ q.1.cls ≠ "java/lang/invoke/VarHandle") ∧ Cond.instantiable q.1.cls q.2 ∈ tables_1 ∧ Cond.privateMethod q.1 ∈ tables_1 ∧ Cond.instanceMethod q.1 ∈ tables_1
theorem lw_p0 : lw_okq (⟨"MatNations", "found", "(I)I"⟩, 12) := ⟨⟨by decide +kernel, by decide +kernel⟩, List.mem_of_getElem? (i := 16) (by decide +kernel), List.mem_of_getElem? (i := 297) (by decide +kernel), List.mem_of_getElem? (i := 298) (by decide +kernel)⟩
theorem lw_p1 : lw_okq (⟨"MatNations", "unfound", "(I)I"⟩, 12) := ⟨⟨by decide +kernel, by decide +kernel⟩, List.mem_of_getElem? (i := 16) (by decide +kernel), List.mem_of_getElem? (i := 306) (by decide +kernel), List.mem_of_getElem? (i := 307) (by decide +kernel)⟩
theorem lw_p2 : lw_okq (⟨"MatNations$Reader", "readLaw", "(LMatNations$House;)Z"⟩, 4) := ⟨⟨by decide +kernel, by decide +kernel⟩, List.mem_of_getElem? (i := 41) (by decide +kernel), List.mem_of_getElem? (i := 378) (by decide +kernel), List.mem_of_getElem? (i := 379) (by decide +kernel)⟩
theorem lw_p3 : lw_okq (⟨"MatNations$Reader", "takeByte", "(I)Z"⟩, 4) := ⟨⟨by decide +kernel, by decide +kernel⟩, List.mem_of_getElem? (i := 41) (by decide +kernel), List.mem_of_getElem? (i := 382) (by decide +kernel), List.mem_of_getElem? (i := 383) (by decide +kernel)⟩
theorem lw_p4 : lw_okq (⟨"MatNations$Reader", "seen", "()I"⟩, 4) := ⟨⟨by decide +kernel, by decide +kernel⟩, List.mem_of_getElem? (i := 41) (by decide +kernel), List.mem_of_getElem? (i := 386) (by decide +kernel), List.mem_of_getElem? (i := 387) (by decide +kernel)⟩
theorem lw_p5 : lw_okq (⟨"MatNations$Reader", "refuse", "(I)Z"⟩, 4) := ⟨⟨by decide +kernel, by decide +kernel⟩, List.mem_of_getElem? (i := 41) (by decide +kernel), List.mem_of_getElem? (i := 390) (by decide +kernel), List.mem_of_getElem? (i := 391) (by decide +kernel)⟩
theorem lw_p6 : lw_okq (⟨"MatNations$Reader", "takeNumber", "(II)I"⟩, 4) := ⟨⟨by decide +kernel, by decide +kernel⟩, List.mem_of_getElem? (i := 41) (by decide +kernel), List.mem_of_getElem? (i := 394) (by decide +kernel), List.mem_of_getElem? (i := 395) (by decide +kernel)⟩
theorem lw_p7 : lw_okq (⟨"MatNations$Reader", "readMats", "(LMatNations$House;)Z"⟩, 4) := ⟨⟨by decide +kernel, by decide +kernel⟩, List.mem_of_getElem? (i := 41) (by decide +kernel), List.mem_of_getElem? (i := 401) (by decide +kernel), List.mem_of_getElem? (i := 402) (by decide +kernel)⟩
theorem lw_p8 : lw_okq (⟨"MatNations$Reader", "readComers", "(LMatNations$House;)Z"⟩, 4) := ⟨⟨by decide +kernel, by decide +kernel⟩, List.mem_of_getElem? (i := 41) (by decide +kernel), List.mem_of_getElem? (i := 405) (by decide +kernel), List.mem_of_getElem? (i := 406) (by decide +kernel)⟩
theorem lw_p9 : lw_okq (⟨"MatNations$Reader", "readTraits", "(LMatNations$Comer;)Z"⟩, 4) := ⟨⟨by decide +kernel, by decide +kernel⟩, List.mem_of_getElem? (i := 41) (by decide +kernel), List.mem_of_getElem? (i := 412) (by decide +kernel), List.mem_of_getElem? (i := 413) (by decide +kernel)⟩
theorem lw_p10 : lw_okq (⟨"MatNations", "noComer", "(I)Z"⟩, 12) := ⟨⟨by decide +kernel, by decide +kernel⟩, List.mem_of_getElem? (i := 16) (by decide +kernel), List.mem_of_getElem? (i := 446) (by decide +kernel), List.mem_of_getElem? (i := 447) (by decide +kernel)⟩
theorem lw_p11 : lw_okq (⟨"MatNations", "noMat", "(I)Z"⟩, 12) := ⟨⟨by decide +kernel, by decide +kernel⟩, List.mem_of_getElem? (i := 16) (by decide +kernel), List.mem_of_getElem? (i := 487) (by decide +kernel), List.mem_of_getElem? (i := 488) (by decide +kernel)⟩
theorem lw_p12 : lw_okq (⟨"MatNations", "noHotel", "()Z"⟩, 12) := ⟨⟨by decide +kernel, by decide +kernel⟩, List.mem_of_getElem? (i := 16) (by decide +kernel), List.mem_of_getElem? (i := 505) (by decide +kernel), List.mem_of_getElem? (i := 506) (by decide +kernel)⟩
theorem lw_p13 : lw_okq (⟨"MatNations$Foretold", "tryOrders", "(LMatNations$House;III)V"⟩, 6) := ⟨⟨by decide +kernel, by decide +kernel⟩, List.mem_of_getElem? (i := 210) (by decide +kernel), List.mem_of_getElem? (i := 584) (by decide +kernel), List.mem_of_getElem? (i := 585) (by decide +kernel)⟩
theorem lw_p14 : lw_okq (⟨"MatNations$Foretold", "keepTried", "(II)V"⟩, 6) := ⟨⟨by decide +kernel, by decide +kernel⟩, List.mem_of_getElem? (i := 210) (by decide +kernel), List.mem_of_getElem? (i := 588) (by decide +kernel), List.mem_of_getElem? (i := 589) (by decide +kernel)⟩
theorem lw_p15 : lw_okq (⟨"MatNations$Foretold", "tryLayings", "(LMatNations$House;II)V"⟩, 6) := ⟨⟨by decide +kernel, by decide +kernel⟩, List.mem_of_getElem? (i := 210) (by decide +kernel), List.mem_of_getElem? (i := 606) (by decide +kernel), List.mem_of_getElem? (i := 607) (by decide +kernel)⟩
def lw_privs_1 : List (MethodName × Nat) := [(⟨"MatNations", "found", "(I)I"⟩, 12), (⟨"MatNations", "unfound", "(I)I"⟩, 12), (⟨"MatNations$Reader", "readLaw", "(LMatNations$House;)Z"⟩, 4), (⟨"MatNations$Reader", "takeByte", "(I)Z"⟩, 4), (⟨"MatNations$Reader", "seen", "()I"⟩, 4), (⟨"MatNations$Reader", "refuse", "(I)Z"⟩, 4), (⟨"MatNations$Reader", "takeNumber", "(II)I"⟩, 4), (⟨"MatNations$Reader", "readMats", "(LMatNations$House;)Z"⟩, 4), (⟨"MatNations$Reader", "readComers", "(LMatNations$House;)Z"⟩, 4), (⟨"MatNations$Reader", "readTraits", "(LMatNations$Comer;)Z"⟩, 4), (⟨"MatNations", "noComer", "(I)Z"⟩, 12), (⟨"MatNations", "noMat", "(I)Z"⟩, 12), (⟨"MatNations", "noHotel", "()Z"⟩, 12), (⟨"MatNations$Foretold", "tryOrders", "(LMatNations$House;III)V"⟩, 6), (⟨"MatNations$Foretold", "keepTried", "(II)V"⟩, 6), (⟨"MatNations$Foretold", "tryLayings", "(LMatNations$House;II)V"⟩, 6)]
theorem lw_r1 : ∀ q ∈ lw_privs_1, lw_okq q := List.forall_mem_cons.mpr ⟨lw_p0, List.forall_mem_cons.mpr ⟨lw_p1, List.forall_mem_cons.mpr ⟨lw_p2, List.forall_mem_cons.mpr ⟨lw_p3, List.forall_mem_cons.mpr ⟨lw_p4, List.forall_mem_cons.mpr ⟨lw_p5, List.forall_mem_cons.mpr ⟨lw_p6, List.forall_mem_cons.mpr ⟨lw_p7, List.forall_mem_cons.mpr ⟨lw_p8, List.forall_mem_cons.mpr ⟨lw_p9, List.forall_mem_cons.mpr ⟨lw_p10, List.forall_mem_cons.mpr ⟨lw_p11, List.forall_mem_cons.mpr ⟨lw_p12, List.forall_mem_cons.mpr ⟨lw_p13, List.forall_mem_cons.mpr ⟨lw_p14, List.forall_mem_cons.mpr ⟨lw_p15, fun _ h => absurd h List.not_mem_nil⟩⟩⟩⟩⟩⟩⟩⟩⟩⟩⟩⟩⟩⟩⟩⟩
theorem lw_p16 : lw_okq (⟨"MatNations$Foretold", "carriedIfBeaten", "(LMatNations$House;II)I"⟩, 6) := ⟨⟨by decide +kernel, by decide +kernel⟩, List.mem_of_getElem? (i := 210) (by decide +kernel), List.mem_of_getElem? (i := 640) (by decide +kernel), List.mem_of_getElem? (i := 641) (by decide +kernel)⟩
theorem lw_p17 : lw_okq (⟨"MatNations$Foretold", "bindsTo", "(LMatNations$House;III)Z"⟩, 6) := ⟨⟨by decide +kernel, by decide +kernel⟩, List.mem_of_getElem? (i := 210) (by decide +kernel), List.mem_of_getElem? (i := 668) (by decide +kernel), List.mem_of_getElem? (i := 669) (by decide +kernel)⟩
theorem lw_p18 : lw_okq (⟨"MatNations", "matRowFinding", "(II)I"⟩, 12) := ⟨⟨by decide +kernel, by decide +kernel⟩, List.mem_of_getElem? (i := 16) (by decide +kernel), List.mem_of_getElem? (i := 676) (by decide +kernel), List.mem_of_getElem? (i := 677) (by decide +kernel)⟩
theorem lw_p19 : lw_okq (⟨"MatNations$Foretold", "isSoBehind", "(LMatNations$House;LMatNations$Comer;LMatNations$Rows;II)Z"⟩, 6) := ⟨⟨by decide +kernel, by decide +kernel⟩, List.mem_of_getElem? (i := 210) (by decide +kernel), List.mem_of_getElem? (i := 684) (by decide +kernel), List.mem_of_getElem? (i := 685) (by decide +kernel)⟩
theorem lw_p20 : lw_okq (⟨"MatNations$Foretold", "giveTrait", "(II)V"⟩, 6) := ⟨⟨by decide +kernel, by decide +kernel⟩, List.mem_of_getElem? (i := 210) (by decide +kernel), List.mem_of_getElem? (i := 709) (by decide +kernel), List.mem_of_getElem? (i := 710) (by decide +kernel)⟩
theorem lw_p21 : lw_okq (⟨"MatNations$Asks", "give", "(ILMatNations$Comer;II)I"⟩, 2) := ⟨⟨by decide +kernel, by decide +kernel⟩, List.mem_of_getElem? (i := 239) (by decide +kernel), List.mem_of_getElem? (i := 783) (by decide +kernel), List.mem_of_getElem? (i := 784) (by decide +kernel)⟩
theorem lw_p22 : lw_okq (⟨"MatNations$Asks", "leaveTrace", "(I)V"⟩, 2) := ⟨⟨by decide +kernel, by decide +kernel⟩, List.mem_of_getElem? (i := 239) (by decide +kernel), List.mem_of_getElem? (i := 787) (by decide +kernel), List.mem_of_getElem? (i := 788) (by decide +kernel)⟩
theorem lw_p23 : lw_okq (⟨"MatNationsModel", "find", "(I)I"⟩, 18) := ⟨⟨by decide +kernel, by decide +kernel⟩, List.mem_of_getElem? (i := 830) (by decide +kernel), List.mem_of_getElem? (i := 904) (by decide +kernel), List.mem_of_getElem? (i := 905) (by decide +kernel)⟩
theorem lw_p24 : lw_okq (⟨"MatNationsModel", "well", "(I)I"⟩, 18) := ⟨⟨by decide +kernel, by decide +kernel⟩, List.mem_of_getElem? (i := 830) (by decide +kernel), List.mem_of_getElem? (i := 909) (by decide +kernel), List.mem_of_getElem? (i := 910) (by decide +kernel)⟩
theorem lw_p25 : lw_okq (⟨"MatNationsModel", "isSpan", "(III)Z"⟩, 18) := ⟨⟨by decide +kernel, by decide +kernel⟩, List.mem_of_getElem? (i := 830) (by decide +kernel), List.mem_of_getElem? (i := 924) (by decide +kernel), List.mem_of_getElem? (i := 925) (by decide +kernel)⟩
theorem lw_p26 : lw_okq (⟨"MatNationsModel", "reads", "()Z"⟩, 18) := ⟨⟨by decide +kernel, by decide +kernel⟩, List.mem_of_getElem? (i := 830) (by decide +kernel), List.mem_of_getElem? (i := 942) (by decide +kernel), List.mem_of_getElem? (i := 943) (by decide +kernel)⟩
theorem lw_p27 : lw_okq (⟨"MatNationsModel", "readsLaw", "()Z"⟩, 18) := ⟨⟨by decide +kernel, by decide +kernel⟩, List.mem_of_getElem? (i := 830) (by decide +kernel), List.mem_of_getElem? (i := 946) (by decide +kernel), List.mem_of_getElem? (i := 947) (by decide +kernel)⟩
theorem lw_p28 : lw_okq (⟨"MatNationsModel", "sign", "(I)Z"⟩, 18) := ⟨⟨by decide +kernel, by decide +kernel⟩, List.mem_of_getElem? (i := 830) (by decide +kernel), List.mem_of_getElem? (i := 950) (by decide +kernel), List.mem_of_getElem? (i := 951) (by decide +kernel)⟩
theorem lw_p29 : lw_okq (⟨"MatNationsModel", "isLetter", "(I)Z"⟩, 18) := ⟨⟨by decide +kernel, by decide +kernel⟩, List.mem_of_getElem? (i := 830) (by decide +kernel), List.mem_of_getElem? (i := 954) (by decide +kernel), List.mem_of_getElem? (i := 955) (by decide +kernel)⟩
theorem lw_p30 : lw_okq (⟨"MatNationsModel", "refuse", "(I)Z"⟩, 18) := ⟨⟨by decide +kernel, by decide +kernel⟩, List.mem_of_getElem? (i := 830) (by decide +kernel), List.mem_of_getElem? (i := 958) (by decide +kernel), List.mem_of_getElem? (i := 959) (by decide +kernel)⟩
theorem lw_p31 : lw_okq (⟨"MatNationsModel", "readsNumber", "(II)Z"⟩, 18) := ⟨⟨by decide +kernel, by decide +kernel⟩, List.mem_of_getElem? (i := 830) (by decide +kernel), List.mem_of_getElem? (i := 962) (by decide +kernel), List.mem_of_getElem? (i := 963) (by decide +kernel)⟩
def lw_privs_2 : List (MethodName × Nat) := [(⟨"MatNations$Foretold", "carriedIfBeaten", "(LMatNations$House;II)I"⟩, 6), (⟨"MatNations$Foretold", "bindsTo", "(LMatNations$House;III)Z"⟩, 6), (⟨"MatNations", "matRowFinding", "(II)I"⟩, 12), (⟨"MatNations$Foretold", "isSoBehind", "(LMatNations$House;LMatNations$Comer;LMatNations$Rows;II)Z"⟩, 6), (⟨"MatNations$Foretold", "giveTrait", "(II)V"⟩, 6), (⟨"MatNations$Asks", "give", "(ILMatNations$Comer;II)I"⟩, 2), (⟨"MatNations$Asks", "leaveTrace", "(I)V"⟩, 2), (⟨"MatNationsModel", "find", "(I)I"⟩, 18), (⟨"MatNationsModel", "well", "(I)I"⟩, 18), (⟨"MatNationsModel", "isSpan", "(III)Z"⟩, 18), (⟨"MatNationsModel", "reads", "()Z"⟩, 18), (⟨"MatNationsModel", "readsLaw", "()Z"⟩, 18), (⟨"MatNationsModel", "sign", "(I)Z"⟩, 18), (⟨"MatNationsModel", "isLetter", "(I)Z"⟩, 18), (⟨"MatNationsModel", "refuse", "(I)Z"⟩, 18), (⟨"MatNationsModel", "readsNumber", "(II)Z"⟩, 18)]
theorem lw_r2 : ∀ q ∈ lw_privs_2, lw_okq q := List.forall_mem_cons.mpr ⟨lw_p16, List.forall_mem_cons.mpr ⟨lw_p17, List.forall_mem_cons.mpr ⟨lw_p18, List.forall_mem_cons.mpr ⟨lw_p19, List.forall_mem_cons.mpr ⟨lw_p20, List.forall_mem_cons.mpr ⟨lw_p21, List.forall_mem_cons.mpr ⟨lw_p22, List.forall_mem_cons.mpr ⟨lw_p23, List.forall_mem_cons.mpr ⟨lw_p24, List.forall_mem_cons.mpr ⟨lw_p25, List.forall_mem_cons.mpr ⟨lw_p26, List.forall_mem_cons.mpr ⟨lw_p27, List.forall_mem_cons.mpr ⟨lw_p28, List.forall_mem_cons.mpr ⟨lw_p29, List.forall_mem_cons.mpr ⟨lw_p30, List.forall_mem_cons.mpr ⟨lw_p31, fun _ h => absurd h List.not_mem_nil⟩⟩⟩⟩⟩⟩⟩⟩⟩⟩⟩⟩⟩⟩⟩⟩
theorem lw_p32 : lw_okq (⟨"MatNationsModel", "isFigure", "(I)Z"⟩, 18) := ⟨⟨by decide +kernel, by decide +kernel⟩, List.mem_of_getElem? (i := 830) (by decide +kernel), List.mem_of_getElem? (i := 966) (by decide +kernel), List.mem_of_getElem? (i := 967) (by decide +kernel)⟩
theorem lw_p33 : lw_okq (⟨"MatNationsModel", "readsMat", "()Z"⟩, 18) := ⟨⟨by decide +kernel, by decide +kernel⟩, List.mem_of_getElem? (i := 830) (by decide +kernel), List.mem_of_getElem? (i := 972) (by decide +kernel), List.mem_of_getElem? (i := 973) (by decide +kernel)⟩
theorem lw_p34 : lw_okq (⟨"MatNationsModel", "isSort", "()Z"⟩, 18) := ⟨⟨by decide +kernel, by decide +kernel⟩, List.mem_of_getElem? (i := 830) (by decide +kernel), List.mem_of_getElem? (i := 976) (by decide +kernel), List.mem_of_getElem? (i := 977) (by decide +kernel)⟩
theorem lw_p35 : lw_okq (⟨"MatNationsModel", "readsComer", "()Z"⟩, 18) := ⟨⟨by decide +kernel, by decide +kernel⟩, List.mem_of_getElem? (i := 830) (by decide +kernel), List.mem_of_getElem? (i := 983) (by decide +kernel), List.mem_of_getElem? (i := 984) (by decide +kernel)⟩
theorem lw_p36 : lw_okq (⟨"MatNationsModel", "copyTown", "(II)V"⟩, 18) := ⟨⟨by decide +kernel, by decide +kernel⟩, List.mem_of_getElem? (i := 830) (by decide +kernel), List.mem_of_getElem? (i := 988) (by decide +kernel), List.mem_of_getElem? (i := 989) (by decide +kernel)⟩
theorem lw_p37 : lw_okq (⟨"MatNationsModel", "isComer", "(I)Z"⟩, 18) := ⟨⟨by decide +kernel, by decide +kernel⟩, List.mem_of_getElem? (i := 830) (by decide +kernel), List.mem_of_getElem? (i := 1005) (by decide +kernel), List.mem_of_getElem? (i := 1006) (by decide +kernel)⟩
theorem lw_p38 : lw_okq (⟨"MatNationsModel", "keepPast", "()V"⟩, 18) := ⟨⟨by decide +kernel, by decide +kernel⟩, List.mem_of_getElem? (i := 830) (by decide +kernel), List.mem_of_getElem? (i := 1009) (by decide +kernel), List.mem_of_getElem? (i := 1010) (by decide +kernel)⟩
theorem lw_p39 : lw_okq (⟨"MatNationsModel", "comesAt", "(II)I"⟩, 18) := ⟨⟨by decide +kernel, by decide +kernel⟩, List.mem_of_getElem? (i := 830) (by decide +kernel), List.mem_of_getElem? (i := 1013) (by decide +kernel), List.mem_of_getElem? (i := 1014) (by decide +kernel)⟩
theorem lw_p40 : lw_okq (⟨"MatNationsModel", "leavesOn", "(IIII)I"⟩, 18) := ⟨⟨by decide +kernel, by decide +kernel⟩, List.mem_of_getElem? (i := 830) (by decide +kernel), List.mem_of_getElem? (i := 1017) (by decide +kernel), List.mem_of_getElem? (i := 1018) (by decide +kernel)⟩
theorem lw_p41 : lw_okq (⟨"MatNationsModel", "liesOn", "(II)I"⟩, 18) := ⟨⟨by decide +kernel, by decide +kernel⟩, List.mem_of_getElem? (i := 830) (by decide +kernel), List.mem_of_getElem? (i := 1021) (by decide +kernel), List.mem_of_getElem? (i := 1022) (by decide +kernel)⟩
theorem lw_p42 : lw_okq (⟨"MatNationsModel", "isMat", "(I)Z"⟩, 18) := ⟨⟨by decide +kernel, by decide +kernel⟩, List.mem_of_getElem? (i := 830) (by decide +kernel), List.mem_of_getElem? (i := 1029) (by decide +kernel), List.mem_of_getElem? (i := 1030) (by decide +kernel)⟩
theorem lw_p43 : lw_okq (⟨"MatNationsModel", "beatsAt", "(II)I"⟩, 18) := ⟨⟨by decide +kernel, by decide +kernel⟩, List.mem_of_getElem? (i := 830) (by decide +kernel), List.mem_of_getElem? (i := 1033) (by decide +kernel), List.mem_of_getElem? (i := 1034) (by decide +kernel)⟩
theorem lw_p44 : lw_okq (⟨"MatNationsModel", "swapPlaces", "(II)V"⟩, 18) := ⟨⟨by decide +kernel, by decide +kernel⟩, List.mem_of_getElem? (i := 830) (by decide +kernel), List.mem_of_getElem? (i := 1041) (by decide +kernel), List.mem_of_getElem? (i := 1042) (by decide +kernel)⟩
theorem lw_p45 : lw_okq (⟨"MatNationsModel", "masterOf", "(I)I"⟩, 18) := ⟨⟨by decide +kernel, by decide +kernel⟩, List.mem_of_getElem? (i := 830) (by decide +kernel), List.mem_of_getElem? (i := 1058) (by decide +kernel), List.mem_of_getElem? (i := 1059) (by decide +kernel)⟩
theorem lw_p46 : lw_okq (⟨"MatNationsModel", "areAtOne", "(III)Z"⟩, 18) := ⟨⟨by decide +kernel, by decide +kernel⟩, List.mem_of_getElem? (i := 830) (by decide +kernel), List.mem_of_getElem? (i := 1072) (by decide +kernel), List.mem_of_getElem? (i := 1073) (by decide +kernel)⟩
theorem lw_p47 : lw_okq (⟨"MatNationsModel", "carriesIf", "(I)I"⟩, 18) := ⟨⟨by decide +kernel, by decide +kernel⟩, List.mem_of_getElem? (i := 830) (by decide +kernel), List.mem_of_getElem? (i := 1080) (by decide +kernel), List.mem_of_getElem? (i := 1081) (by decide +kernel)⟩
def lw_privs_3 : List (MethodName × Nat) := [(⟨"MatNationsModel", "isFigure", "(I)Z"⟩, 18), (⟨"MatNationsModel", "readsMat", "()Z"⟩, 18), (⟨"MatNationsModel", "isSort", "()Z"⟩, 18), (⟨"MatNationsModel", "readsComer", "()Z"⟩, 18), (⟨"MatNationsModel", "copyTown", "(II)V"⟩, 18), (⟨"MatNationsModel", "isComer", "(I)Z"⟩, 18), (⟨"MatNationsModel", "keepPast", "()V"⟩, 18), (⟨"MatNationsModel", "comesAt", "(II)I"⟩, 18), (⟨"MatNationsModel", "leavesOn", "(IIII)I"⟩, 18), (⟨"MatNationsModel", "liesOn", "(II)I"⟩, 18), (⟨"MatNationsModel", "isMat", "(I)Z"⟩, 18), (⟨"MatNationsModel", "beatsAt", "(II)I"⟩, 18), (⟨"MatNationsModel", "swapPlaces", "(II)V"⟩, 18), (⟨"MatNationsModel", "masterOf", "(I)I"⟩, 18), (⟨"MatNationsModel", "areAtOne", "(III)Z"⟩, 18), (⟨"MatNationsModel", "carriesIf", "(I)I"⟩, 18)]
theorem lw_r3 : ∀ q ∈ lw_privs_3, lw_okq q := List.forall_mem_cons.mpr ⟨lw_p32, List.forall_mem_cons.mpr ⟨lw_p33, List.forall_mem_cons.mpr ⟨lw_p34, List.forall_mem_cons.mpr ⟨lw_p35, List.forall_mem_cons.mpr ⟨lw_p36, List.forall_mem_cons.mpr ⟨lw_p37, List.forall_mem_cons.mpr ⟨lw_p38, List.forall_mem_cons.mpr ⟨lw_p39, List.forall_mem_cons.mpr ⟨lw_p40, List.forall_mem_cons.mpr ⟨lw_p41, List.forall_mem_cons.mpr ⟨lw_p42, List.forall_mem_cons.mpr ⟨lw_p43, List.forall_mem_cons.mpr ⟨lw_p44, List.forall_mem_cons.mpr ⟨lw_p45, List.forall_mem_cons.mpr ⟨lw_p46, List.forall_mem_cons.mpr ⟨lw_p47, fun _ h => absurd h List.not_mem_nil⟩⟩⟩⟩⟩⟩⟩⟩⟩⟩⟩⟩⟩⟩⟩⟩
theorem lw_p48 : lw_okq (⟨"MatNationsModel", "layTried", "()V"⟩, 18) := ⟨⟨by decide +kernel, by decide +kernel⟩, List.mem_of_getElem? (i := 830) (by decide +kernel), List.mem_of_getElem? (i := 1084) (by decide +kernel), List.mem_of_getElem? (i := 1085) (by decide +kernel)⟩
theorem lw_p49 : lw_okq (⟨"MatNationsModel", "layLine", "(I)V"⟩, 18) := ⟨⟨by decide +kernel, by decide +kernel⟩, List.mem_of_getElem? (i := 830) (by decide +kernel), List.mem_of_getElem? (i := 1101) (by decide +kernel), List.mem_of_getElem? (i := 1102) (by decide +kernel)⟩
theorem lw_p50 : lw_okq (⟨"MatNationsModel", "takeLine", "()V"⟩, 18) := ⟨⟨by decide +kernel, by decide +kernel⟩, List.mem_of_getElem? (i := 830) (by decide +kernel), List.mem_of_getElem? (i := 1105) (by decide +kernel), List.mem_of_getElem? (i := 1106) (by decide +kernel)⟩
theorem lw_p51 : lw_okq (⟨"MatNationsModel", "nextLine", "(I)Z"⟩, 18) := ⟨⟨by decide +kernel, by decide +kernel⟩, List.mem_of_getElem? (i := 830) (by decide +kernel), List.mem_of_getElem? (i := 1109) (by decide +kernel), List.mem_of_getElem? (i := 1110) (by decide +kernel)⟩
theorem lw_p52 : lw_okq (⟨"MatNationsModel", "swapLine", "(II)V"⟩, 18) := ⟨⟨by decide +kernel, by decide +kernel⟩, List.mem_of_getElem? (i := 830) (by decide +kernel), List.mem_of_getElem? (i := 1113) (by decide +kernel), List.mem_of_getElem? (i := 1114) (by decide +kernel)⟩
theorem lw_p53 : lw_okq (⟨"MatNationsModel", "layMats", "()V"⟩, 18) := ⟨⟨by decide +kernel, by decide +kernel⟩, List.mem_of_getElem? (i := 830) (by decide +kernel), List.mem_of_getElem? (i := 1122) (by decide +kernel), List.mem_of_getElem? (i := 1123) (by decide +kernel)⟩
theorem lw_p54 : lw_okq (⟨"MatNationsModel", "comeAll", "(I)I"⟩, 18) := ⟨⟨by decide +kernel, by decide +kernel⟩, List.mem_of_getElem? (i := 830) (by decide +kernel), List.mem_of_getElem? (i := 1126) (by decide +kernel), List.mem_of_getElem? (i := 1127) (by decide +kernel)⟩
theorem lw_p55 : lw_okq (⟨"MatNationsModel", "noItems", "(II)I"⟩, 18) := ⟨⟨by decide +kernel, by decide +kernel⟩, List.mem_of_getElem? (i := 830) (by decide +kernel), List.mem_of_getElem? (i := 1153) (by decide +kernel), List.mem_of_getElem? (i := 1154) (by decide +kernel)⟩
theorem lw_p56 : lw_okq (⟨"MatNationsModel", "isSo", "(III)Z"⟩, 18) := ⟨⟨by decide +kernel, by decide +kernel⟩, List.mem_of_getElem? (i := 830) (by decide +kernel), List.mem_of_getElem? (i := 1157) (by decide +kernel), List.mem_of_getElem? (i := 1158) (by decide +kernel)⟩
theorem lw_p57 : lw_okq (⟨"MatNationsModel", "onAll", "(I)I"⟩, 18) := ⟨⟨by decide +kernel, by decide +kernel⟩, List.mem_of_getElem? (i := 830) (by decide +kernel), List.mem_of_getElem? (i := 1178) (by decide +kernel), List.mem_of_getElem? (i := 1179) (by decide +kernel)⟩
theorem lw_p58 : lw_okq (⟨"MatNationsModel", "isOf", "(II)Z"⟩, 18) := ⟨⟨by decide +kernel, by decide +kernel⟩, List.mem_of_getElem? (i := 830) (by decide +kernel), List.mem_of_getElem? (i := 1198) (by decide +kernel), List.mem_of_getElem? (i := 1199) (by decide +kernel)⟩
theorem lw_p59 : lw_okq (⟨"MatNationsModel", "sizeOf", "(I)I"⟩, 18) := ⟨⟨by decide +kernel, by decide +kernel⟩, List.mem_of_getElem? (i := 830) (by decide +kernel), List.mem_of_getElem? (i := 1206) (by decide +kernel), List.mem_of_getElem? (i := 1207) (by decide +kernel)⟩
theorem lw_p60 : lw_okq (⟨"MatNationsModel", "begin", "(I)V"⟩, 18) := ⟨⟨by decide +kernel, by decide +kernel⟩, List.mem_of_getElem? (i := 830) (by decide +kernel), List.mem_of_getElem? (i := 1210) (by decide +kernel), List.mem_of_getElem? (i := 1211) (by decide +kernel)⟩
theorem lw_p61 : lw_okq (⟨"MatNationsModel", "wiperSize", "(I)I"⟩, 18) := ⟨⟨by decide +kernel, by decide +kernel⟩, List.mem_of_getElem? (i := 830) (by decide +kernel), List.mem_of_getElem? (i := 1214) (by decide +kernel), List.mem_of_getElem? (i := 1215) (by decide +kernel)⟩
theorem lw_p62 : lw_okq (⟨"MatNationsModel", "lentSize", "(I)I"⟩, 18) := ⟨⟨by decide +kernel, by decide +kernel⟩, List.mem_of_getElem? (i := 830) (by decide +kernel), List.mem_of_getElem? (i := 1218) (by decide +kernel), List.mem_of_getElem? (i := 1219) (by decide +kernel)⟩
theorem lw_p63 : lw_okq (⟨"MatNationsModel", "mark", "(I)I"⟩, 18) := ⟨⟨by decide +kernel, by decide +kernel⟩, List.mem_of_getElem? (i := 830) (by decide +kernel), List.mem_of_getElem? (i := 1222) (by decide +kernel), List.mem_of_getElem? (i := 1223) (by decide +kernel)⟩
def lw_privs_4 : List (MethodName × Nat) := [(⟨"MatNationsModel", "layTried", "()V"⟩, 18), (⟨"MatNationsModel", "layLine", "(I)V"⟩, 18), (⟨"MatNationsModel", "takeLine", "()V"⟩, 18), (⟨"MatNationsModel", "nextLine", "(I)Z"⟩, 18), (⟨"MatNationsModel", "swapLine", "(II)V"⟩, 18), (⟨"MatNationsModel", "layMats", "()V"⟩, 18), (⟨"MatNationsModel", "comeAll", "(I)I"⟩, 18), (⟨"MatNationsModel", "noItems", "(II)I"⟩, 18), (⟨"MatNationsModel", "isSo", "(III)Z"⟩, 18), (⟨"MatNationsModel", "onAll", "(I)I"⟩, 18), (⟨"MatNationsModel", "isOf", "(II)Z"⟩, 18), (⟨"MatNationsModel", "sizeOf", "(I)I"⟩, 18), (⟨"MatNationsModel", "begin", "(I)V"⟩, 18), (⟨"MatNationsModel", "wiperSize", "(I)I"⟩, 18), (⟨"MatNationsModel", "lentSize", "(I)I"⟩, 18), (⟨"MatNationsModel", "mark", "(I)I"⟩, 18)]
theorem lw_r4 : ∀ q ∈ lw_privs_4, lw_okq q := List.forall_mem_cons.mpr ⟨lw_p48, List.forall_mem_cons.mpr ⟨lw_p49, List.forall_mem_cons.mpr ⟨lw_p50, List.forall_mem_cons.mpr ⟨lw_p51, List.forall_mem_cons.mpr ⟨lw_p52, List.forall_mem_cons.mpr ⟨lw_p53, List.forall_mem_cons.mpr ⟨lw_p54, List.forall_mem_cons.mpr ⟨lw_p55, List.forall_mem_cons.mpr ⟨lw_p56, List.forall_mem_cons.mpr ⟨lw_p57, List.forall_mem_cons.mpr ⟨lw_p58, List.forall_mem_cons.mpr ⟨lw_p59, List.forall_mem_cons.mpr ⟨lw_p60, List.forall_mem_cons.mpr ⟨lw_p61, List.forall_mem_cons.mpr ⟨lw_p62, List.forall_mem_cons.mpr ⟨lw_p63, fun _ h => absurd h List.not_mem_nil⟩⟩⟩⟩⟩⟩⟩⟩⟩⟩⟩⟩⟩⟩⟩⟩
theorem lw_p64 : lw_okq (⟨"MatNationsModel", "wiperMark", "(I)I"⟩, 18) := ⟨⟨by decide +kernel, by decide +kernel⟩, List.mem_of_getElem? (i := 830) (by decide +kernel), List.mem_of_getElem? (i := 1226) (by decide +kernel), List.mem_of_getElem? (i := 1227) (by decide +kernel)⟩
theorem lw_p65 : lw_okq (⟨"MatNationsModel", "lentMark", "(I)I"⟩, 18) := ⟨⟨by decide +kernel, by decide +kernel⟩, List.mem_of_getElem? (i := 830) (by decide +kernel), List.mem_of_getElem? (i := 1230) (by decide +kernel), List.mem_of_getElem? (i := 1231) (by decide +kernel)⟩
theorem lw_p66 : lw_okq (⟨"MatNationsModel", "stamperSize", "(I)I"⟩, 18) := ⟨⟨by decide +kernel, by decide +kernel⟩, List.mem_of_getElem? (i := 830) (by decide +kernel), List.mem_of_getElem? (i := 1234) (by decide +kernel), List.mem_of_getElem? (i := 1235) (by decide +kernel)⟩
theorem lw_p67 : lw_okq (⟨"MatNationsModel", "stamperMark", "(I)I"⟩, 18) := ⟨⟨by decide +kernel, by decide +kernel⟩, List.mem_of_getElem? (i := 830) (by decide +kernel), List.mem_of_getElem? (i := 1238) (by decide +kernel), List.mem_of_getElem? (i := 1239) (by decide +kernel)⟩
theorem lw_p68 : lw_okq (⟨"MatNationsModel", "comings", "()I"⟩, 18) := ⟨⟨by decide +kernel, by decide +kernel⟩, List.mem_of_getElem? (i := 830) (by decide +kernel), List.mem_of_getElem? (i := 1250) (by decide +kernel), List.mem_of_getElem? (i := 1251) (by decide +kernel)⟩
def lw_privs_5 : List (MethodName × Nat) := [(⟨"MatNationsModel", "wiperMark", "(I)I"⟩, 18), (⟨"MatNationsModel", "lentMark", "(I)I"⟩, 18), (⟨"MatNationsModel", "stamperSize", "(I)I"⟩, 18), (⟨"MatNationsModel", "stamperMark", "(I)I"⟩, 18), (⟨"MatNationsModel", "comings", "()I"⟩, 18)]
theorem lw_r5 : ∀ q ∈ lw_privs_5, lw_okq q := List.forall_mem_cons.mpr ⟨lw_p64, List.forall_mem_cons.mpr ⟨lw_p65, List.forall_mem_cons.mpr ⟨lw_p66, List.forall_mem_cons.mpr ⟨lw_p67, List.forall_mem_cons.mpr ⟨lw_p68, fun _ h => absurd h List.not_mem_nil⟩⟩⟩⟩⟩
def lw_privs : List (MethodName × Nat) := lw_privs_1 ++ (lw_privs_2 ++ (lw_privs_3 ++ (lw_privs_4 ++ (lw_privs_5))))
def lw_tbl : List Cond := k2_sels lw_privs ++ tables_1
theorem lw_privs_ok : ∀ q ∈ lw_privs, lw_okq q := by
  show ∀ q ∈ lw_privs_1 ++ (lw_privs_2 ++ (lw_privs_3 ++ (lw_privs_4 ++ (lw_privs_5)))), lw_okq q
  exact List.forall_mem_append.mpr ⟨lw_r1, List.forall_mem_append.mpr ⟨lw_r2, List.forall_mem_append.mpr ⟨lw_r3, List.forall_mem_append.mpr ⟨lw_r4, lw_r5⟩⟩⟩⟩
def RX0 : String := "MatNations$Asks"
def TX0 : u_T := fun k => match k with
  | 0 => ("MatNations$Asks", "begun", "[I", true)
  | _ => ("MatNations$Asks", "size", "I", false)
def tyX0 : Nat → FieldType := fun k => match k with
  | 0 => .array .int
  | _ => .int
abbrev wsX00 : List Cond := u_ws RX0 TX0 2
theorem nmX0 : ∀ a, a < 2 → ∀ b, b < 2 → a ≠ b → (TX0 a).2.1 ≠ (TX0 b).2.1 := by decide +kernel
theorem tyX0_ok : ∀ k, k < 2 → parseFieldDescriptor (TX0 k).2.2.1 = some (tyX0 k) := by decide +kernel
abbrev cX0_init : ByteArray := prog_2_method_1_code
def yX0_init : MethodName := ⟨RX0, "<init>", "()V"⟩
abbrev cX0_answer : ByteArray := prog_2_method_2_code
def yX0_answer : MethodName := ⟨RX0, "answer", "(LMatNations$Comer;II)I"⟩
abbrev cX0_traced : ByteArray := prog_2_method_3_code
def yX0_traced : MethodName := ⟨RX0, "traced", "(I)I"⟩
abbrev cX0_bodyOf : ByteArray := prog_2_method_4_code
def yX0_bodyOf : MethodName := ⟨RX0, "bodyOf", "(LMatNations$Comer;I)I"⟩
abbrev cX0_leaveTrace : ByteArray := prog_2_method_5_code
def yX0_leaveTrace : MethodName := ⟨RX0, "leaveTrace", "(I)V"⟩
abbrev cX0_give : ByteArray := prog_2_method_6_code
def yX0_give : MethodName := ⟨RX0, "give", "(ILMatNations$Comer;II)I"⟩
def RX1 : String := "MatNations$Comer"
def TX1 : u_T := fun k => match k with
  | 0 => ("MatNations$Comer", "sort", "I", false)
  | 1 => ("MatNations$Comer", "soil", "I", false)
  | 2 => ("MatNations$Comer", "from", "I", false)
  | 3 => ("MatNations$Comer", "manners", "I", false)
  | _ => ("MatNations$Comer", "came", "I", false)
def tyX1 : Nat → FieldType := fun k => match k with
  | 0 => .int
  | 1 => .int
  | 2 => .int
  | 3 => .int
  | _ => .int
abbrev wsX10 : List Cond := u_ws RX1 TX1 5
theorem nmX1 : ∀ a, a < 5 → ∀ b, b < 5 → a ≠ b → (TX1 a).2.1 ≠ (TX1 b).2.1 := by decide +kernel
theorem tyX1_ok : ∀ k, k < 5 → parseFieldDescriptor (TX1 k).2.2.1 = some (tyX1 k) := by decide +kernel
abbrev cX1_init : ByteArray := prog_3_method_1_code
def yX1_init : MethodName := ⟨RX1, "<init>", "()V"⟩
abbrev cX1_takeOver : ByteArray := prog_3_method_2_code
def yX1_takeOver : MethodName := ⟨RX1, "takeOver", "(LMatNations$Comer;)V"⟩
abbrev cX1_wipes : ByteArray := prog_3_method_3_code
def yX1_wipes : MethodName := ⟨RX1, "wipes", "(III)I"⟩
abbrev cX1_isOf : ByteArray := prog_3_method_4_code
def yX1_isOf : MethodName := ⟨RX1, "isOf", "(I)Z"⟩
def RX2 : String := "MatNations$Foretold"
def TX2 : u_T := fun k => match k with
  | 0 => ("MatNations$Foretold", "walk", "LMatNations$Walk;", true)
  | 1 => ("MatNations$Foretold", "suspect", "LMatNations$Comer;", true)
  | 2 => ("MatNations$Foretold", "levels", "[I", true)
  | 3 => ("MatNations$Foretold", "tried", "[I", true)
  | 4 => ("MatNations$Foretold", "best", "[I", true)
  | _ => ("MatNations$Foretold", "least", "I", false)
def tyX2 : Nat → FieldType := fun k => match k with
  | 0 => .object "MatNations$Walk"
  | 1 => .object "MatNations$Comer"
  | 2 => .array .int
  | 3 => .array .int
  | 4 => .array .int
  | _ => .int
abbrev wsX20 : List Cond := u_ws RX2 TX2 6
theorem nmX2 : ∀ a, a < 6 → ∀ b, b < 6 → a ≠ b → (TX2 a).2.1 ≠ (TX2 b).2.1 := by decide +kernel
theorem tyX2_ok : ∀ k, k < 6 → parseFieldDescriptor (TX2 k).2.2.1 = some (tyX2 k) := by decide +kernel
abbrev cX2_init : ByteArray := prog_4_method_1_code
def yX2_init : MethodName := ⟨RX2, "<init>", "()V"⟩
abbrev cX2_cleanOnes : ByteArray := prog_4_method_2_code
def yX2_cleanOnes : MethodName := ⟨RX2, "cleanOnes", "(LMatNations$House;)I"⟩
abbrev cX2_told : ByteArray := prog_4_method_3_code
def yX2_told : MethodName := ⟨RX2, "told", "(II)I"⟩
abbrev cX2_seekOrder : ByteArray := prog_4_method_4_code
def yX2_seekOrder : MethodName := ⟨RX2, "seekOrder", "(LMatNations$House;)V"⟩
abbrev cX2_tryOrders : ByteArray := prog_4_method_5_code
def yX2_tryOrders : MethodName := ⟨RX2, "tryOrders", "(LMatNations$House;III)V"⟩
abbrev cX2_seekLaying : ByteArray := prog_4_method_6_code
def yX2_seekLaying : MethodName := ⟨RX2, "seekLaying", "(LMatNations$House;)V"⟩
abbrev cX2_tryLayings : ByteArray := prog_4_method_7_code
def yX2_tryLayings : MethodName := ⟨RX2, "tryLayings", "(LMatNations$House;II)V"⟩
abbrev cX2_keepTried : ByteArray := prog_4_method_8_code
def yX2_keepTried : MethodName := ⟨RX2, "keepTried", "(II)V"⟩
abbrev cX2_fewestBeaten : ByteArray := prog_4_method_9_code
def yX2_fewestBeaten : MethodName := ⟨RX2, "fewestBeaten", "(LMatNations$House;II)I"⟩
abbrev cX2_carriedIfBeaten : ByteArray := prog_4_method_10_code
def yX2_carriedIfBeaten : MethodName := ⟨RX2, "carriedIfBeaten", "(LMatNations$House;II)I"⟩
abbrev cX2_uniters : ByteArray := prog_4_method_11_code
def yX2_uniters : MethodName := ⟨RX2, "uniters", "(LMatNations$House;II)I"⟩
abbrev cX2_bindsTo : ByteArray := prog_4_method_12_code
def yX2_bindsTo : MethodName := ⟨RX2, "bindsTo", "(LMatNations$House;III)Z"⟩
abbrev cX2_culprits : ByteArray := prog_4_method_13_code
def yX2_culprits : MethodName := ⟨RX2, "culprits", "(LMatNations$House;LMatNations$Rows;II)I"⟩
abbrev cX2_tryAs : ByteArray := prog_4_method_14_code
def yX2_tryAs : MethodName := ⟨RX2, "tryAs", "(LMatNations$Comer;)V"⟩
abbrev cX2_fitting : ByteArray := prog_4_method_15_code
def yX2_fitting : MethodName := ⟨RX2, "fitting", "(LMatNations$House;ILMatNations$Rows;II)I"⟩
abbrev cX2_giveTrait : ByteArray := prog_4_method_16_code
def yX2_giveTrait : MethodName := ⟨RX2, "giveTrait", "(II)V"⟩
abbrev cX2_isSoBehind : ByteArray := prog_4_method_17_code
def yX2_isSoBehind : MethodName := ⟨RX2, "isSoBehind", "(LMatNations$House;LMatNations$Comer;LMatNations$Rows;II)Z"⟩
abbrev cX2_likelihood : ByteArray := prog_4_method_18_code
def yX2_likelihood : MethodName := ⟨RX2, "likelihood", "(LMatNations$House;IIZ)I"⟩
abbrev cX2_weight : ByteArray := prog_4_method_19_code
def yX2_weight : MethodName := ⟨RX2, "weight", "(LMatNations$House;II)I"⟩
abbrev cX2_commonDivisor : ByteArray := prog_4_method_20_code
def yX2_commonDivisor : MethodName := ⟨RX2, "commonDivisor", "(II)I"⟩
abbrev cX2_years : ByteArray := prog_4_method_21_code
def yX2_years : MethodName := ⟨RX2, "years", "(LMatNations$House;IIZ)I"⟩
def RX3 : String := "MatNations$History"
def TX3 : u_T := fun k => match k with
  | 0 => ("MatNations$History", "cells", "[I", true)
  | 1 => ("MatNations$History", "next", "I", false)
  | _ => ("MatNations$History", "size", "I", false)
def tyX3 : Nat → FieldType := fun k => match k with
  | 0 => .array .int
  | 1 => .int
  | _ => .int
abbrev wsX30 : List Cond := u_ws RX3 TX3 3
theorem nmX3 : ∀ a, a < 3 → ∀ b, b < 3 → a ≠ b → (TX3 a).2.1 ≠ (TX3 b).2.1 := by decide +kernel
theorem tyX3_ok : ∀ k, k < 3 → parseFieldDescriptor (TX3 k).2.2.1 = some (tyX3 k) := by decide +kernel
abbrev cX3_init : ByteArray := prog_5_method_1_code
def yX3_init : MethodName := ⟨RX3, "<init>", "()V"⟩
abbrev cX3_isEmpty : ByteArray := prog_5_method_2_code
def yX3_isEmpty : MethodName := ⟨RX3, "isEmpty", "()Z"⟩
abbrev cX3_size : ByteArray := prog_5_method_3_code
def yX3_size : MethodName := ⟨RX3, "size", "()I"⟩
abbrev cX3_forget : ByteArray := prog_5_method_4_code
def yX3_forget : MethodName := ⟨RX3, "forget", "()V"⟩
abbrev cX3_keep : ByteArray := prog_5_method_5_code
def yX3_keep : MethodName := ⟨RX3, "keep", "(LMatNations$House;)V"⟩
abbrev cX3_takeBack : ByteArray := prog_5_method_6_code
def yX3_takeBack : MethodName := ⟨RX3, "takeBack", "(LMatNations$House;)I"⟩
def RX4 : String := "MatNations$House"
def TX4 : u_T := fun k => match k with
  | 0 => ("MatNations$House", "limit", "I", false)
  | 1 => ("MatNations$House", "bond", "I", false)
  | 2 => ("MatNations$House", "matCount", "I", false)
  | 3 => ("MatNations$House", "comerCount", "I", false)
  | 4 => ("MatNations$House", "mats", "[LMatNations$Mat;", true)
  | _ => ("MatNations$House", "comers", "[LMatNations$Comer;", true)
def tyX4 : Nat → FieldType := fun k => match k with
  | 0 => .int
  | 1 => .int
  | 2 => .int
  | 3 => .int
  | 4 => .array (.object "MatNations$Mat")
  | _ => .array (.object "MatNations$Comer")
abbrev wsX40 : List Cond := u_ws RX4 TX4 6
theorem nmX4 : ∀ a, a < 6 → ∀ b, b < 6 → a ≠ b → (TX4 a).2.1 ≠ (TX4 b).2.1 := by decide +kernel
theorem tyX4_ok : ∀ k, k < 6 → parseFieldDescriptor (TX4 k).2.2.1 = some (tyX4 k) := by decide +kernel
abbrev cX4_init : ByteArray := prog_6_method_1_code
def yX4_init : MethodName := ⟨RX4, "<init>", "()V"⟩
abbrev cX4_clear : ByteArray := prog_6_method_2_code
def yX4_clear : MethodName := ⟨RX4, "clear", "()V"⟩
abbrev cX4_takeOver : ByteArray := prog_6_method_3_code
def yX4_takeOver : MethodName := ⟨RX4, "takeOver", "(LMatNations$House;)V"⟩
abbrev cX4_writeCells : ByteArray := prog_6_method_4_code
def yX4_writeCells : MethodName := ⟨RX4, "writeCells", "([II)V"⟩
abbrev cX4_readCells : ByteArray := prog_6_method_5_code
def yX4_readCells : MethodName := ⟨RX4, "readCells", "([II)V"⟩
abbrev cX4_allComers : ByteArray := prog_6_method_6_code
def yX4_allComers : MethodName := ⟨RX4, "allComers", "()I"⟩
abbrev cX4_receive : ByteArray := prog_6_method_7_code
def yX4_receive : MethodName := ⟨RX4, "receive", "(LMatNations$Comer;LMatNations$Walk;)I"⟩
abbrev cX4_swapWithNext : ByteArray := prog_6_method_8_code
def yX4_swapWithNext : MethodName := ⟨RX4, "swapWithNext", "(I)V"⟩
abbrev cX4_rainOnAll : ByteArray := prog_6_method_9_code
def yX4_rainOnAll : MethodName := ⟨RX4, "rainOnAll", "(I)I"⟩
abbrev cX4_areAtOne : ByteArray := prog_6_method_10_code
def yX4_areAtOne : MethodName := ⟨RX4, "areAtOne", "(II)Z"⟩
abbrev cX4_pactCount : ByteArray := prog_6_method_11_code
def yX4_pactCount : MethodName := ⟨RX4, "pactCount", "()I"⟩
abbrev cX4_firstPact : ByteArray := prog_6_method_12_code
def yX4_firstPact : MethodName := ⟨RX4, "firstPact", "()I"⟩
abbrev cX4_lyingInAll : ByteArray := prog_6_method_13_code
def yX4_lyingInAll : MethodName := ⟨RX4, "lyingInAll", "()I"⟩
abbrev cX4_comings : ByteArray := prog_6_method_14_code
def yX4_comings : MethodName := ⟨RX4, "comings", "()I"⟩
def RX5 : String := "MatNations$Mat"
def TX5 : u_T := fun k => match k with
  | 0 => ("MatNations$Mat", "country", "I", false)
  | _ => ("MatNations$Mat", "soil", "[I", true)
def tyX5 : Nat → FieldType := fun k => match k with
  | 0 => .int
  | _ => .array .int
abbrev wsX50 : List Cond := u_ws RX5 TX5 2
theorem nmX5 : ∀ a, a < 2 → ∀ b, b < 2 → a ≠ b → (TX5 a).2.1 ≠ (TX5 b).2.1 := by decide +kernel
theorem tyX5_ok : ∀ k, k < 2 → parseFieldDescriptor (TX5 k).2.2.1 = some (tyX5 k) := by decide +kernel
abbrev cX5_init : ByteArray := prog_7_method_1_code
def yX5_init : MethodName := ⟨RX5, "<init>", "()V"⟩
abbrev cX5_lying : ByteArray := prog_7_method_2_code
def yX5_lying : MethodName := ⟨RX5, "lying", "()I"⟩
abbrev cX5_master : ByteArray := prog_7_method_3_code
def yX5_master : MethodName := ⟨RX5, "master", "()I"⟩
abbrev cX5_empty : ByteArray := prog_7_method_4_code
def yX5_empty : MethodName := ⟨RX5, "empty", "()V"⟩
abbrev cX5_takeOver : ByteArray := prog_7_method_5_code
def yX5_takeOver : MethodName := ⟨RX5, "takeOver", "(LMatNations$Mat;)V"⟩
def RX6 : String := "MatNations$Reader"
def TX6 : u_T := fun k => match k with
  | 0 => ("MatNations$Reader", "bytes", "[I", true)
  | 1 => ("MatNations$Reader", "length", "I", false)
  | 2 => ("MatNations$Reader", "at", "I", false)
  | _ => ("MatNations$Reader", "wrong", "I", false)
def tyX6 : Nat → FieldType := fun k => match k with
  | 0 => .array .int
  | 1 => .int
  | 2 => .int
  | _ => .int
abbrev wsX60 : List Cond := u_ws RX6 TX6 4
theorem nmX6 : ∀ a, a < 4 → ∀ b, b < 4 → a ≠ b → (TX6 a).2.1 ≠ (TX6 b).2.1 := by decide +kernel
theorem tyX6_ok : ∀ k, k < 4 → parseFieldDescriptor (TX6 k).2.2.1 = some (tyX6 k) := by decide +kernel
abbrev cX6_init : ByteArray := prog_8_method_1_code
def yX6_init : MethodName := ⟨RX6, "<init>", "()V"⟩
abbrev cX6_isFull : ByteArray := prog_8_method_2_code
def yX6_isFull : MethodName := ⟨RX6, "isFull", "()Z"⟩
abbrev cX6_size : ByteArray := prog_8_method_3_code
def yX6_size : MethodName := ⟨RX6, "size", "()I"⟩
abbrev cX6_append : ByteArray := prog_8_method_4_code
def yX6_append : MethodName := ⟨RX6, "append", "(I)I"⟩
abbrev cX6_place : ByteArray := prog_8_method_5_code
def yX6_place : MethodName := ⟨RX6, "place", "()I"⟩
abbrev cX6_readInto : ByteArray := prog_8_method_6_code
def yX6_readInto : MethodName := ⟨RX6, "readInto", "(LMatNations$House;)I"⟩
abbrev cX6_readLaw : ByteArray := prog_8_method_7_code
def yX6_readLaw : MethodName := ⟨RX6, "readLaw", "(LMatNations$House;)Z"⟩
abbrev cX6_readMats : ByteArray := prog_8_method_8_code
def yX6_readMats : MethodName := ⟨RX6, "readMats", "(LMatNations$House;)Z"⟩
abbrev cX6_readComers : ByteArray := prog_8_method_9_code
def yX6_readComers : MethodName := ⟨RX6, "readComers", "(LMatNations$House;)Z"⟩
abbrev cX6_readTraits : ByteArray := prog_8_method_10_code
def yX6_readTraits : MethodName := ⟨RX6, "readTraits", "(LMatNations$Comer;)Z"⟩
abbrev cX6_sortOf : ByteArray := prog_8_method_11_code
def yX6_sortOf : MethodName := ⟨RX6, "sortOf", "(I)I"⟩
abbrev cX6_seen : ByteArray := prog_8_method_12_code
def yX6_seen : MethodName := ⟨RX6, "seen", "()I"⟩
abbrev cX6_refuse : ByteArray := prog_8_method_13_code
def yX6_refuse : MethodName := ⟨RX6, "refuse", "(I)Z"⟩
abbrev cX6_takeByte : ByteArray := prog_8_method_14_code
def yX6_takeByte : MethodName := ⟨RX6, "takeByte", "(I)Z"⟩
abbrev cX6_takeNumber : ByteArray := prog_8_method_15_code
def yX6_takeNumber : MethodName := ⟨RX6, "takeNumber", "(II)I"⟩
abbrev cX6_isFigure : ByteArray := prog_8_method_16_code
def yX6_isFigure : MethodName := ⟨RX6, "isFigure", "(I)Z"⟩
def RX7 : String := "MatNations$Rows"
def TX7 : u_T := fun k => match k with
  | 0 => ("MatNations$Rows", "items", "[I", true)
  | 1 => ("MatNations$Rows", "lanes", "[I", true)
  | _ => ("MatNations$Rows", "sizes", "[I", true)
def tyX7 : Nat → FieldType := fun k => match k with
  | 0 => .array .int
  | 1 => .array .int
  | _ => .array .int
abbrev wsX70 : List Cond := u_ws RX7 TX7 3
theorem nmX7 : ∀ a, a < 3 → ∀ b, b < 3 → a ≠ b → (TX7 a).2.1 ≠ (TX7 b).2.1 := by decide +kernel
theorem tyX7_ok : ∀ k, k < 3 → parseFieldDescriptor (TX7 k).2.2.1 = some (tyX7 k) := by decide +kernel
abbrev cX7_init : ByteArray := prog_9_method_1_code
def yX7_init : MethodName := ⟨RX7, "<init>", "()V"⟩
abbrev cX7_isMissing : ByteArray := prog_9_method_2_code
def yX7_isMissing : MethodName := ⟨RX7, "isMissing", "(I)Z"⟩
abbrev cX7_sameLane : ByteArray := prog_9_method_3_code
def yX7_sameLane : MethodName := ⟨RX7, "sameLane", "(II)Z"⟩
abbrev cX7_reaches : ByteArray := prog_9_method_4_code
def yX7_reaches : MethodName := ⟨RX7, "reaches", "(III)Z"⟩
abbrev cX7_item : ByteArray := prog_9_method_5_code
def yX7_item : MethodName := ⟨RX7, "item", "(II)I"⟩
abbrev cX7_make : ByteArray := prog_9_method_6_code
def yX7_make : MethodName := ⟨RX7, "make", "(III)V"⟩
abbrev cX7_put : ByteArray := prog_9_method_7_code
def yX7_put : MethodName := ⟨RX7, "put", "(III)I"⟩
abbrev cX7_carryOver : ByteArray := prog_9_method_8_code
def yX7_carryOver : MethodName := ⟨RX7, "carryOver", "(IIIII)V"⟩
abbrev cX7_remove : ByteArray := prog_9_method_9_code
def yX7_remove : MethodName := ⟨RX7, "remove", "(I)I"⟩
abbrev cX7_present : ByteArray := prog_9_method_10_code
def yX7_present : MethodName := ⟨RX7, "present", "()I"⟩
def RX8 : String := "MatNations$Walk"
def TX8 : u_T := fun k => match k with
  | 0 => ("MatNations$Walk", "laid", "[I", true)
  | 1 => ("MatNations$Walk", "lying", "[I", true)
  | _ => ("MatNations$Walk", "left", "[I", true)
def tyX8 : Nat → FieldType := fun k => match k with
  | 0 => .array .int
  | 1 => .array .int
  | _ => .array .int
abbrev wsX80 : List Cond := u_ws RX8 TX8 3
theorem nmX8 : ∀ a, a < 3 → ∀ b, b < 3 → a ≠ b → (TX8 a).2.1 ≠ (TX8 b).2.1 := by decide +kernel
theorem tyX8_ok : ∀ k, k < 3 → parseFieldDescriptor (TX8 k).2.2.1 = some (tyX8 k) := by decide +kernel
abbrev cX8_init : ByteArray := prog_10_method_1_code
def yX8_init : MethodName := ⟨RX8, "<init>", "()V"⟩
abbrev cX8_begin : ByteArray := prog_10_method_2_code
def yX8_begin : MethodName := ⟨RX8, "begin", "(LMatNations$House;)V"⟩
abbrev cX8_goOver : ByteArray := prog_10_method_3_code
def yX8_goOver : MethodName := ⟨RX8, "goOver", "(LMatNations$House;LMatNations$Comer;)I"⟩
abbrev cX8_allGoOver : ByteArray := prog_10_method_4_code
def yX8_allGoOver : MethodName := ⟨RX8, "allGoOver", "(LMatNations$House;I)I"⟩
abbrev cX8_lyingInAll : ByteArray := prog_10_method_5_code
def yX8_lyingInAll : MethodName := ⟨RX8, "lyingInAll", "(LMatNations$House;)I"⟩
def RX9 : String := "MatNations"
def TX9 : u_T := fun k => match k with
  | 0 => ("MatNations", "rows", "LMatNations$Rows;", true)
  | 1 => ("MatNations", "reader", "LMatNations$Reader;", true)
  | 2 => ("MatNations", "house", "LMatNations$House;", true)
  | 3 => ("MatNations", "draft", "LMatNations$House;", true)
  | 4 => ("MatNations", "images", "[LMatNations$House;", true)
  | 5 => ("MatNations", "kept", "[Z", true)
  | 6 => ("MatNations", "history", "LMatNations$History;", true)
  | 7 => ("MatNations", "walk", "LMatNations$Walk;", true)
  | 8 => ("MatNations", "foretold", "LMatNations$Foretold;", true)
  | 9 => ("MatNations", "asks", "LMatNations$Asks;", true)
  | 10 => ("MatNations", "latestFault", "I", false)
  | _ => ("MatNations", "latestFinding", "I", false)
def tyX9 : Nat → FieldType := fun k => match k with
  | 0 => .object "MatNations$Rows"
  | 1 => .object "MatNations$Reader"
  | 2 => .object "MatNations$House"
  | 3 => .object "MatNations$House"
  | 4 => .array (.object "MatNations$House")
  | 5 => .array .boolean
  | 6 => .object "MatNations$History"
  | 7 => .object "MatNations$Walk"
  | 8 => .object "MatNations$Foretold"
  | 9 => .object "MatNations$Asks"
  | 10 => .int
  | _ => .int
abbrev wsX90 : List Cond := u_ws RX9 TX9 12
theorem nmX9 : ∀ a, a < 12 → ∀ b, b < 12 → a ≠ b → (TX9 a).2.1 ≠ (TX9 b).2.1 := by decide +kernel
theorem tyX9_ok : ∀ k, k < 12 → parseFieldDescriptor (TX9 k).2.2.1 = some (tyX9 k) := by decide +kernel
abbrev cX9_init : ByteArray := prog_1_method_1_code
def yX9_init : MethodName := ⟨RX9, "<init>", "()V"⟩
abbrev cX9_row : ByteArray := prog_1_method_2_code
def yX9_row : MethodName := ⟨RX9, "row", "(III)I"⟩
abbrev cX9_set : ByteArray := prog_1_method_3_code
def yX9_set : MethodName := ⟨RX9, "set", "(III)I"⟩
abbrev cX9_copy : ByteArray := prog_1_method_4_code
def yX9_copy : MethodName := ⟨RX9, "copy", "(IIIII)I"⟩
abbrev cX9_drop : ByteArray := prog_1_method_5_code
def yX9_drop : MethodName := ⟨RX9, "drop", "(I)I"⟩
abbrev cX9_feed : ByteArray := prog_1_method_6_code
def yX9_feed : MethodName := ⟨RX9, "feed", "(I)I"⟩
abbrev cX9_hotel : ByteArray := prog_1_method_7_code
def yX9_hotel : MethodName := ⟨RX9, "hotel", "()I"⟩
abbrev cX9_fault : ByteArray := prog_1_method_8_code
def yX9_fault : MethodName := ⟨RX9, "fault", "()I"⟩
abbrev cX9_come : ByteArray := prog_1_method_9_code
def yX9_come : MethodName := ⟨RX9, "come", "(I)I"⟩
abbrev cX9_beat : ByteArray := prog_1_method_10_code
def yX9_beat : MethodName := ⟨RX9, "beat", "(I)I"⟩
abbrev cX9_change : ByteArray := prog_1_method_11_code
def yX9_change : MethodName := ⟨RX9, "change", "(I)I"⟩
abbrev cX9_rain : ByteArray := prog_1_method_12_code
def yX9_rain : MethodName := ⟨RX9, "rain", "(I)I"⟩
abbrev cX9_undo : ByteArray := prog_1_method_13_code
def yX9_undo : MethodName := ⟨RX9, "undo", "()I"⟩
abbrev cX9_comer : ByteArray := prog_1_method_14_code
def yX9_comer : MethodName := ⟨RX9, "comer", "(II)I"⟩
abbrev cX9_mat : ByteArray := prog_1_method_15_code
def yX9_mat : MethodName := ⟨RX9, "mat", "(II)I"⟩
abbrev cX9_soil : ByteArray := prog_1_method_16_code
def yX9_soil : MethodName := ⟨RX9, "soil", "(II)I"⟩
abbrev cX9_atOne : ByteArray := prog_1_method_17_code
def yX9_atOne : MethodName := ⟨RX9, "atOne", "(II)I"⟩
abbrev cX9_leaves : ByteArray := prog_1_method_18_code
def yX9_leaves : MethodName := ⟨RX9, "leaves", "(II)I"⟩
abbrev cX9_carries : ByteArray := prog_1_method_19_code
def yX9_carries : MethodName := ⟨RX9, "carries", "(I)I"⟩
abbrev cX9_clean : ByteArray := prog_1_method_20_code
def yX9_clean : MethodName := ⟨RX9, "clean", "()I"⟩
abbrev cX9_order : ByteArray := prog_1_method_21_code
def yX9_order : MethodName := ⟨RX9, "order", "(I)I"⟩
abbrev cX9_laying : ByteArray := prog_1_method_22_code
def yX9_laying : MethodName := ⟨RX9, "laying", "(I)I"⟩
abbrev cX9_beating : ByteArray := prog_1_method_23_code
def yX9_beating : MethodName := ⟨RX9, "beating", "(III)I"⟩
abbrev cX9_pacts : ByteArray := prog_1_method_24_code
def yX9_pacts : MethodName := ⟨RX9, "pacts", "(I)I"⟩
abbrev cX9_could : ByteArray := prog_1_method_25_code
def yX9_could : MethodName := ⟨RX9, "could", "(II)I"⟩
abbrev cX9_who : ByteArray := prog_1_method_26_code
def yX9_who : MethodName := ⟨RX9, "who", "(II)I"⟩
abbrev cX9_fits : ByteArray := prog_1_method_27_code
def yX9_fits : MethodName := ⟨RX9, "fits", "(IIII)I"⟩
abbrev cX9_absent : ByteArray := prog_1_method_28_code
def yX9_absent : MethodName := ⟨RX9, "absent", "(III)I"⟩
abbrev cX9_drawn : ByteArray := prog_1_method_29_code
def yX9_drawn : MethodName := ⟨RX9, "drawn", "(III)I"⟩
abbrev cX9_image : ByteArray := prog_1_method_30_code
def yX9_image : MethodName := ⟨RX9, "image", "(I)I"⟩
abbrev cX9_restore : ByteArray := prog_1_method_31_code
def yX9_restore : MethodName := ⟨RX9, "restore", "(I)I"⟩
abbrev cX9_kind : ByteArray := prog_1_method_32_code
def yX9_kind : MethodName := ⟨RX9, "kind", "(I)I"⟩
abbrev cX9_as : ByteArray := prog_1_method_33_code
def yX9_as : MethodName := ⟨RX9, "as", "(II)I"⟩
abbrev cX9_ask : ByteArray := prog_1_method_34_code
def yX9_ask : MethodName := ⟨RX9, "ask", "(II)I"⟩
abbrev cX9_trace : ByteArray := prog_1_method_35_code
def yX9_trace : MethodName := ⟨RX9, "trace", "(I)I"⟩
abbrev cX9_count : ByteArray := prog_1_method_36_code
def yX9_count : MethodName := ⟨RX9, "count", "(I)I"⟩
abbrev cX9_status : ByteArray := prog_1_method_37_code
def yX9_status : MethodName := ⟨RX9, "status", "()I"⟩
abbrev cX9_noRow : ByteArray := prog_1_method_38_code
def yX9_noRow : MethodName := ⟨RX9, "noRow", "(I)Z"⟩
abbrev cX9_noImage : ByteArray := prog_1_method_39_code
def yX9_noImage : MethodName := ⟨RX9, "noImage", "(I)Z"⟩
abbrev cX9_noCarried : ByteArray := prog_1_method_40_code
def yX9_noCarried : MethodName := ⟨RX9, "noCarried", "(I)Z"⟩
abbrev cX9_neither : ByteArray := prog_1_method_41_code
def yX9_neither : MethodName := ⟨RX9, "neither", "(I)Z"⟩
abbrev cX9_noHotel : ByteArray := prog_1_method_42_code
def yX9_noHotel : MethodName := ⟨RX9, "noHotel", "()Z"⟩
abbrev cX9_noComer : ByteArray := prog_1_method_43_code
def yX9_noComer : MethodName := ⟨RX9, "noComer", "(I)Z"⟩
abbrev cX9_noMat : ByteArray := prog_1_method_44_code
def yX9_noMat : MethodName := ⟨RX9, "noMat", "(I)Z"⟩
abbrev cX9_found : ByteArray := prog_1_method_45_code
def yX9_found : MethodName := ⟨RX9, "found", "(I)I"⟩
abbrev cX9_unfound : ByteArray := prog_1_method_46_code
def yX9_unfound : MethodName := ⟨RX9, "unfound", "(I)I"⟩
abbrev cX9_matRowFinding : ByteArray := prog_1_method_47_code
def yX9_matRowFinding : MethodName := ⟨RX9, "matRowFinding", "(II)I"⟩
def RX10 : String := "MatNationsModel"
def TX10 : u_T := fun k => match k with
  | 0 => ("MatNationsModel", "row", "[I", true)
  | 1 => ("MatNationsModel", "isHotel", "Z", false)
  | 2 => ("MatNationsModel", "undos", "I", false)
  | 3 => ("MatNationsModel", "isKept", "[Z", true)
  | 4 => ("MatNationsModel", "lanes", "[I", true)
  | 5 => ("MatNationsModel", "sizes", "[I", true)
  | 6 => ("MatNationsModel", "items", "[I", true)
  | 7 => ("MatNationsModel", "tape", "[I", true)
  | 8 => ("MatNationsModel", "length", "I", false)
  | 9 => ("MatNationsModel", "fault", "I", false)
  | 10 => ("MatNationsModel", "status", "I", false)
  | 11 => ("MatNationsModel", "trace", "[I", true)
  | 12 => ("MatNationsModel", "traced", "I", false)
  | 13 => ("MatNationsModel", "at", "I", false)
  | 14 => ("MatNationsModel", "wrong", "I", false)
  | 15 => ("MatNationsModel", "number", "I", false)
  | 16 => ("MatNationsModel", "line", "[I", true)
  | _ => ("MatNationsModel", "bestLine", "[I", true)
def tyX10 : Nat → FieldType := fun k => match k with
  | 0 => .array .int
  | 1 => .boolean
  | 2 => .int
  | 3 => .array .boolean
  | 4 => .array .int
  | 5 => .array .int
  | 6 => .array .int
  | 7 => .array .int
  | 8 => .int
  | 9 => .int
  | 10 => .int
  | 11 => .array .int
  | 12 => .int
  | 13 => .int
  | 14 => .int
  | 15 => .int
  | 16 => .array .int
  | _ => .array .int
abbrev wsX100 : List Cond := u_ws RX10 TX10 18
theorem nmX10 : ∀ a, a < 18 → ∀ b, b < 18 → a ≠ b → (TX10 a).2.1 ≠ (TX10 b).2.1 := by decide +kernel
theorem tyX10_ok : ∀ k, k < 18 → parseFieldDescriptor (TX10 k).2.2.1 = some (tyX10 k) := by decide +kernel
abbrev cX10_init : ByteArray := prog_12_method_1_code
def yX10_init : MethodName := ⟨RX10, "<init>", "()V"⟩
abbrev cX10_in : ByteArray := prog_12_method_2_code
def yX10_in : MethodName := ⟨RX10, "in", "(JJJ)Z"⟩
abbrev cX10_has : ByteArray := prog_12_method_3_code
def yX10_has : MethodName := ⟨RX10, "has", "(II)Z"⟩
abbrev cX10_bits : ByteArray := prog_12_method_4_code
def yX10_bits : MethodName := ⟨RX10, "bits", "(I)I"⟩
abbrev cX10_find : ByteArray := prog_12_method_5_code
def yX10_find : MethodName := ⟨RX10, "find", "(I)I"⟩
abbrev cX10_well : ByteArray := prog_12_method_6_code
def yX10_well : MethodName := ⟨RX10, "well", "(I)I"⟩
abbrev cX10_isRow : ByteArray := prog_12_method_7_code
def yX10_isRow : MethodName := ⟨RX10, "isRow", "(I)Z"⟩
abbrev cX10_row : ByteArray := prog_12_method_8_code
def yX10_row : MethodName := ⟨RX10, "row", "(III)I"⟩
abbrev cX10_narrow : ByteArray := prog_12_method_9_code
def yX10_narrow : MethodName := ⟨RX10, "narrow", "(II)I"⟩
abbrev cX10_set : ByteArray := prog_12_method_10_code
def yX10_set : MethodName := ⟨RX10, "set", "(III)I"⟩
abbrev cX10_isSpan : ByteArray := prog_12_method_11_code
def yX10_isSpan : MethodName := ⟨RX10, "isSpan", "(III)Z"⟩
abbrev cX10_copy : ByteArray := prog_12_method_12_code
def yX10_copy : MethodName := ⟨RX10, "copy", "(IIIII)I"⟩
abbrev cX10_drop : ByteArray := prog_12_method_13_code
def yX10_drop : MethodName := ⟨RX10, "drop", "(I)I"⟩
abbrev cX10_feed : ByteArray := prog_12_method_14_code
def yX10_feed : MethodName := ⟨RX10, "feed", "(I)I"⟩
abbrev cX10_isLetter : ByteArray := prog_12_method_15_code
def yX10_isLetter : MethodName := ⟨RX10, "isLetter", "(I)Z"⟩
abbrev cX10_isFigure : ByteArray := prog_12_method_16_code
def yX10_isFigure : MethodName := ⟨RX10, "isFigure", "(I)Z"⟩
abbrev cX10_refuse : ByteArray := prog_12_method_17_code
def yX10_refuse : MethodName := ⟨RX10, "refuse", "(I)Z"⟩
abbrev cX10_sign : ByteArray := prog_12_method_18_code
def yX10_sign : MethodName := ⟨RX10, "sign", "(I)Z"⟩
abbrev cX10_readsNumber : ByteArray := prog_12_method_19_code
def yX10_readsNumber : MethodName := ⟨RX10, "readsNumber", "(II)Z"⟩
abbrev cX10_readsLaw : ByteArray := prog_12_method_20_code
def yX10_readsLaw : MethodName := ⟨RX10, "readsLaw", "()Z"⟩
abbrev cX10_readsMat : ByteArray := prog_12_method_21_code
def yX10_readsMat : MethodName := ⟨RX10, "readsMat", "()Z"⟩
abbrev cX10_kindOfLetter : ByteArray := prog_12_method_22_code
def yX10_kindOfLetter : MethodName := ⟨RX10, "kindOfLetter", "(I)I"⟩
abbrev cX10_readsComer : ByteArray := prog_12_method_23_code
def yX10_readsComer : MethodName := ⟨RX10, "readsComer", "()Z"⟩
abbrev cX10_isSort : ByteArray := prog_12_method_24_code
def yX10_isSort : MethodName := ⟨RX10, "isSort", "()Z"⟩
abbrev cX10_reads : ByteArray := prog_12_method_25_code
def yX10_reads : MethodName := ⟨RX10, "reads", "()Z"⟩
abbrev cX10_hotel : ByteArray := prog_12_method_26_code
def yX10_hotel : MethodName := ⟨RX10, "hotel", "()I"⟩
abbrev cX10_fault : ByteArray := prog_12_method_27_code
def yX10_fault : MethodName := ⟨RX10, "fault", "()I"⟩
abbrev cX10_copyTown : ByteArray := prog_12_method_28_code
def yX10_copyTown : MethodName := ⟨RX10, "copyTown", "(II)V"⟩
abbrev cX10_keepPast : ByteArray := prog_12_method_29_code
def yX10_keepPast : MethodName := ⟨RX10, "keepPast", "()V"⟩
abbrev cX10_undo : ByteArray := prog_12_method_30_code
def yX10_undo : MethodName := ⟨RX10, "undo", "()I"⟩
abbrev cX10_isComer : ByteArray := prog_12_method_31_code
def yX10_isComer : MethodName := ⟨RX10, "isComer", "(I)Z"⟩
abbrev cX10_isMat : ByteArray := prog_12_method_32_code
def yX10_isMat : MethodName := ⟨RX10, "isMat", "(I)Z"⟩
abbrev cX10_liesOn : ByteArray := prog_12_method_33_code
def yX10_liesOn : MethodName := ⟨RX10, "liesOn", "(II)I"⟩
abbrev cX10_onAll : ByteArray := prog_12_method_34_code
def yX10_onAll : MethodName := ⟨RX10, "onAll", "(I)I"⟩
abbrev cX10_leavesOn : ByteArray := prog_12_method_35_code
def yX10_leavesOn : MethodName := ⟨RX10, "leavesOn", "(IIII)I"⟩
abbrev cX10_comesAt : ByteArray := prog_12_method_36_code
def yX10_comesAt : MethodName := ⟨RX10, "comesAt", "(II)I"⟩
abbrev cX10_beatsAt : ByteArray := prog_12_method_37_code
def yX10_beatsAt : MethodName := ⟨RX10, "beatsAt", "(II)I"⟩
abbrev cX10_areAtOne : ByteArray := prog_12_method_38_code
def yX10_areAtOne : MethodName := ⟨RX10, "areAtOne", "(III)Z"⟩
abbrev cX10_come : ByteArray := prog_12_method_39_code
def yX10_come : MethodName := ⟨RX10, "come", "(I)I"⟩
abbrev cX10_beat : ByteArray := prog_12_method_40_code
def yX10_beat : MethodName := ⟨RX10, "beat", "(I)I"⟩
abbrev cX10_swapPlaces : ByteArray := prog_12_method_41_code
def yX10_swapPlaces : MethodName := ⟨RX10, "swapPlaces", "(II)V"⟩
abbrev cX10_change : ByteArray := prog_12_method_42_code
def yX10_change : MethodName := ⟨RX10, "change", "(I)I"⟩
abbrev cX10_rain : ByteArray := prog_12_method_43_code
def yX10_rain : MethodName := ⟨RX10, "rain", "(I)I"⟩
abbrev cX10_comer : ByteArray := prog_12_method_44_code
def yX10_comer : MethodName := ⟨RX10, "comer", "(II)I"⟩
abbrev cX10_masterOf : ByteArray := prog_12_method_45_code
def yX10_masterOf : MethodName := ⟨RX10, "masterOf", "(I)I"⟩
abbrev cX10_mat : ByteArray := prog_12_method_46_code
def yX10_mat : MethodName := ⟨RX10, "mat", "(II)I"⟩
abbrev cX10_soil : ByteArray := prog_12_method_47_code
def yX10_soil : MethodName := ⟨RX10, "soil", "(II)I"⟩
abbrev cX10_atOne : ByteArray := prog_12_method_48_code
def yX10_atOne : MethodName := ⟨RX10, "atOne", "(II)I"⟩
abbrev cX10_layTried : ByteArray := prog_12_method_49_code
def yX10_layTried : MethodName := ⟨RX10, "layTried", "()V"⟩
abbrev cX10_carriesIf : ByteArray := prog_12_method_50_code
def yX10_carriesIf : MethodName := ⟨RX10, "carriesIf", "(I)I"⟩
abbrev cX10_leaves : ByteArray := prog_12_method_51_code
def yX10_leaves : MethodName := ⟨RX10, "leaves", "(II)I"⟩
abbrev cX10_carries : ByteArray := prog_12_method_52_code
def yX10_carries : MethodName := ⟨RX10, "carries", "(I)I"⟩
abbrev cX10_clean : ByteArray := prog_12_method_53_code
def yX10_clean : MethodName := ⟨RX10, "clean", "()I"⟩
abbrev cX10_layLine : ByteArray := prog_12_method_54_code
def yX10_layLine : MethodName := ⟨RX10, "layLine", "(I)V"⟩
abbrev cX10_swapLine : ByteArray := prog_12_method_55_code
def yX10_swapLine : MethodName := ⟨RX10, "swapLine", "(II)V"⟩
abbrev cX10_takeLine : ByteArray := prog_12_method_56_code
def yX10_takeLine : MethodName := ⟨RX10, "takeLine", "()V"⟩
abbrev cX10_nextLine : ByteArray := prog_12_method_57_code
def yX10_nextLine : MethodName := ⟨RX10, "nextLine", "(I)Z"⟩
abbrev cX10_comeAll : ByteArray := prog_12_method_58_code
def yX10_comeAll : MethodName := ⟨RX10, "comeAll", "(I)I"⟩
abbrev cX10_order : ByteArray := prog_12_method_59_code
def yX10_order : MethodName := ⟨RX10, "order", "(I)I"⟩
abbrev cX10_layMats : ByteArray := prog_12_method_60_code
def yX10_layMats : MethodName := ⟨RX10, "layMats", "()V"⟩
abbrev cX10_laying : ByteArray := prog_12_method_61_code
def yX10_laying : MethodName := ⟨RX10, "laying", "(I)I"⟩
abbrev cX10_beating : ByteArray := prog_12_method_62_code
def yX10_beating : MethodName := ⟨RX10, "beating", "(III)I"⟩
abbrev cX10_pacts : ByteArray := prog_12_method_63_code
def yX10_pacts : MethodName := ⟨RX10, "pacts", "(I)I"⟩
abbrev cX10_could : ByteArray := prog_12_method_64_code
def yX10_could : MethodName := ⟨RX10, "could", "(II)I"⟩
abbrev cX10_noItems : ByteArray := prog_12_method_65_code
def yX10_noItems : MethodName := ⟨RX10, "noItems", "(II)I"⟩
abbrev cX10_isSo : ByteArray := prog_12_method_66_code
def yX10_isSo : MethodName := ⟨RX10, "isSo", "(III)Z"⟩
abbrev cX10_who : ByteArray := prog_12_method_67_code
def yX10_who : MethodName := ⟨RX10, "who", "(II)I"⟩
abbrev cX10_fits : ByteArray := prog_12_method_68_code
def yX10_fits : MethodName := ⟨RX10, "fits", "(IIII)I"⟩
abbrev cX10_absent : ByteArray := prog_12_method_69_code
def yX10_absent : MethodName := ⟨RX10, "absent", "(III)I"⟩
abbrev cX10_drawn : ByteArray := prog_12_method_70_code
def yX10_drawn : MethodName := ⟨RX10, "drawn", "(III)I"⟩
abbrev cX10_image : ByteArray := prog_12_method_71_code
def yX10_image : MethodName := ⟨RX10, "image", "(I)I"⟩
abbrev cX10_restore : ByteArray := prog_12_method_72_code
def yX10_restore : MethodName := ⟨RX10, "restore", "(I)I"⟩
abbrev cX10_kind : ByteArray := prog_12_method_73_code
def yX10_kind : MethodName := ⟨RX10, "kind", "(I)I"⟩
abbrev cX10_isOf : ByteArray := prog_12_method_74_code
def yX10_isOf : MethodName := ⟨RX10, "isOf", "(II)Z"⟩
abbrev cX10_as : ByteArray := prog_12_method_75_code
def yX10_as : MethodName := ⟨RX10, "as", "(II)I"⟩
abbrev cX10_begin : ByteArray := prog_12_method_76_code
def yX10_begin : MethodName := ⟨RX10, "begin", "(I)V"⟩
abbrev cX10_lentSize : ByteArray := prog_12_method_77_code
def yX10_lentSize : MethodName := ⟨RX10, "lentSize", "(I)I"⟩
abbrev cX10_wiperSize : ByteArray := prog_12_method_78_code
def yX10_wiperSize : MethodName := ⟨RX10, "wiperSize", "(I)I"⟩
abbrev cX10_stamperSize : ByteArray := prog_12_method_79_code
def yX10_stamperSize : MethodName := ⟨RX10, "stamperSize", "(I)I"⟩
abbrev cX10_sizeOf : ByteArray := prog_12_method_80_code
def yX10_sizeOf : MethodName := ⟨RX10, "sizeOf", "(I)I"⟩
abbrev cX10_lentMark : ByteArray := prog_12_method_81_code
def yX10_lentMark : MethodName := ⟨RX10, "lentMark", "(I)I"⟩
abbrev cX10_wiperMark : ByteArray := prog_12_method_82_code
def yX10_wiperMark : MethodName := ⟨RX10, "wiperMark", "(I)I"⟩
abbrev cX10_mark : ByteArray := prog_12_method_83_code
def yX10_mark : MethodName := ⟨RX10, "mark", "(I)I"⟩
abbrev cX10_stamperMark : ByteArray := prog_12_method_84_code
def yX10_stamperMark : MethodName := ⟨RX10, "stamperMark", "(I)I"⟩
abbrev cX10_ask : ByteArray := prog_12_method_85_code
def yX10_ask : MethodName := ⟨RX10, "ask", "(II)I"⟩
abbrev cX10_trace : ByteArray := prog_12_method_86_code
def yX10_trace : MethodName := ⟨RX10, "trace", "(I)I"⟩
abbrev cX10_comings : ByteArray := prog_12_method_87_code
def yX10_comings : MethodName := ⟨RX10, "comings", "()I"⟩
abbrev cX10_count : ByteArray := prog_12_method_88_code
def yX10_count : MethodName := ⟨RX10, "count", "(I)I"⟩
abbrev cX10_status : ByteArray := prog_12_method_89_code
def yX10_status : MethodName := ⟨RX10, "status", "()I"⟩
def RJ6 : String := "java/lang/Integer"
def TJ6 : u_T := fun k => match k with
  | _ => ("", "", "", false)
def tyJ6 : Nat → FieldType := fun k => match k with
  | _ => .int
abbrev wsJ60 : List Cond := u_ws RJ6 TJ6 0
theorem nmJ6 : ∀ a, a < 0 → ∀ b, b < 0 → a ≠ b → (TJ6 a).2.1 ≠ (TJ6 b).2.1 := by decide +kernel
theorem tyJ6_ok : ∀ k, k < 0 → parseFieldDescriptor (TJ6 k).2.2.1 = some (tyJ6 k) := by decide +kernel
abbrev cJ6_bitCount_0f7a4 : ByteArray := prog_13_method_49_code
def yJ6_bitCount_0f7a4 : MethodName := ⟨RJ6, "bitCount", "(I)I"⟩
def RJ9 : String := "java/lang/Math"
def TJ9 : u_T := fun k => match k with
  | _ => ("", "", "", false)
def tyJ9 : Nat → FieldType := fun k => match k with
  | _ => .int
abbrev wsJ90 : List Cond := u_ws RJ9 TJ9 0
theorem nmJ9 : ∀ a, a < 0 → ∀ b, b < 0 → a ≠ b → (TJ9 a).2.1 ≠ (TJ9 b).2.1 := by decide +kernel
theorem tyJ9_ok : ∀ k, k < 0 → parseFieldDescriptor (TJ9 k).2.2.1 = some (tyJ9 k) := by decide +kernel
abbrev cJ9_min_7cf53 : ByteArray := prog_14_method_69_code
def yJ9_min_7cf53 : MethodName := ⟨RJ9, "min", "(II)I"⟩
def RJ10 : String := "java/lang/System"
def TJ10 : u_T := fun k => match k with
  | _ => ("", "", "", false)
def tyJ10 : Nat → FieldType := fun k => match k with
  | _ => .int
abbrev wsJ100 : List Cond := u_ws RJ10 TJ10 0
theorem nmJ10 : ∀ a, a < 0 → ∀ b, b < 0 → a ≠ b → (TJ10 a).2.1 ≠ (TJ10 b).2.1 := by decide +kernel
theorem tyJ10_ok : ∀ k, k < 0 → parseFieldDescriptor (TJ10 k).2.2.1 = some (tyJ10 k) := by decide +kernel
def RL : String := "MatNationsLaw"
abbrev cL_law : ByteArray := code
def yL_law : MethodName := ⟨RL, "law", "([I)Z"⟩
abbrev vwCl : List vw_C := [(RX0, TX0, 2), (RX1, TX1, 5), (RX2, TX2, 6), (RX3, TX3, 3), (RX4, TX4, 6), (RX5, TX5, 2), (RX6, TX6, 4), (RX7, TX7, 3), (RX8, TX8, 3), (RX9, TX9, 12), (RX10, TX10, 18)]
end
section
/-! A small machine over whole numbers: values are an int, a long or a reference; cells are numbered in the order of their making. -/
abbrev jm_V : Type := Int ⊕ (Int ⊕ Int)
/-- a cell's kind (0 int[], 1 boolean[], 2 .. 9 arrays of references, 10 + c an object of class c), its length, its reference fields -/
abbrev jm_S : Type := Nat × Nat × List Int
abbrev jm_M : Type := Int → Int → Int
abbrev jm_H : Type := List jm_S × jm_M
abbrev jm_E : Type := Nat × Instr × Nat × List Int
abbrev jm_L : Type := List (Option jm_V)
abbrev jm_K : Type := Nat → jm_L → List jm_V → jm_H → Prop
abbrev jm_Q : Type := List jm_V → jm_H → Prop
abbrev jm_C : Type := Nat → List jm_V → jm_H → jm_Q → Prop
abbrev jm_X : Type := Nat → Nat × (Int → Int)
abbrev jm_vi (z : Int) : jm_V := .inl z
abbrev jm_vl (z : Int) : jm_V := .inr (.inl z)
abbrev jm_vr (z : Int) : jm_V := .inr (.inr z)
abbrev jm_r (z : Int) : Prop := -2147483648 ≤ z ∧ z ≤ 2147483647
abbrev jm_rl (z : Int) : Prop := -9223372036854775808 ≤ z ∧ z ≤ 9223372036854775807
def jm_and (a b : Int) : Int := (Int32.ofInt a &&& Int32.ofInt b).toInt
def jm_or (a b : Int) : Int := (Int32.ofInt a ||| Int32.ofInt b).toInt
def jm_xor (a b : Int) : Int := (Int32.ofInt a ^^^ Int32.ofInt b).toInt
def jm_shl (a b : Int) : Int := (Int32.ofInt a <<< (Int32.ofInt b &&& 31)).toInt
def jm_shr (a b : Int) : Int := (Int32.ofInt a >>> (Int32.ofInt b &&& 31)).toInt
def jm_ushr (a b : Int) : Int := (((Int32.ofInt a).toUInt32 >>> ((Int32.ofInt b).toUInt32 &&& Int32.toUInt32 31)).toInt32).toInt
def jm_u1 (f : Int → Int) (j v : Int) : Int → Int := fun b => if b = j then v else f b
def jm_uc (μ : jm_M) (z : Int) (f : Int → Int) : jm_M := fun a => if a = z then f else μ a
def jm_cpy (f g : Int → Int) (sp dp n : Int) : Int → Int := fun k => if dp ≤ k ∧ k < dp + n then f (sp + (k - dp)) else g k
/-- a value comes into the locals; a long ahead of it that it cuts is gone -/
def jm_set : jm_L → Nat → jm_V → jm_L
  | [], _, _ => []
  | _ :: r, 0, v => some v :: r
  | o :: r, 1, v => (match o with | some (.inr (.inl _)) => none | o => o) :: jm_set r 0 v
  | o :: r, k + 2, v => o :: jm_set r (k + 1) v
def jm_set2 (L : jm_L) (k : Nat) (v : jm_V) : jm_L := (jm_set L k v).set (k + 1) none
def jm_loc : List jm_V → jm_L
  | [] => []
  | .inl z :: r => some (.inl z) :: jm_loc r
  | .inr (.inl z) :: r => some (.inr (.inl z)) :: none :: jm_loc r
  | .inr (.inr z) :: r => some (.inr (.inr z)) :: jm_loc r
def jm_cond (c : Jvm.ClassFile.Cond) (a b : Int) : Prop := match c with
  | .eq => a = b
  | .ne => ¬ a = b
  | .lt => a < b
  | .ge => b ≤ a
  | .gt => b < a
  | .le => a ≤ b
def jm_tot : List jm_S → Nat
  | [] => 0
  | s :: r => s.2.1 + jm_tot r
/-- a switch: the values with the places where it goes on, then the place for all others -/
def jm_sw (K : Nat → Prop) (a : Int) : List Int → Prop
  | [] => False
  | [t] => K t.toNat
  | v :: t :: r => (a = v → K t.toNat) ∧ (¬ a = v → jm_sw K a r)
/-- class c's field k: 0 an int, 1 a boolean, 2 a reference -/
def jm_ft : List (List Nat) := [[2, 0], [0, 0, 0, 0, 0], [2, 2, 2, 2, 2, 0], [2, 0, 0], [0, 0, 0, 0, 2, 2], [0, 2], [2, 0, 0, 0], [2, 2, 2], [2, 2, 2], [2, 2, 2, 2, 2, 2, 2, 2, 2, 2, 0, 0], [2, 1, 0, 2, 2, 2, 2, 2, 0, 0, 0, 2, 0, 0, 0, 0, 2, 2]]
def jm_fty (c k : Nat) : Nat := (jm_ft.getD c []).getD k 9
/-- what one instruction asks for, so that K may go on behind it. B: how many cells and slots there may be at most; Q: what holds at the end -/
def jm_sem (X : jm_X) (C : jm_C) (B : Nat × Nat) (Q : jm_Q) (K : jm_K) (e : jm_E) (i : Nat) (L : jm_L) (st : List jm_V) (h : jm_H) : Prop :=
  match e.2.1 with
  | .iconst n => K (i + 1) L (.inl n :: st) h
  | .bipush n => K (i + 1) L (.inl n :: st) h
  | .sipush n => K (i + 1) L (.inl n :: st) h
  | .ldc _ => match e.2.2.2 with
    | [v] => K (i + 1) L (.inl v :: st) h
    | _ => False
  | .ldc_w _ => match e.2.2.2 with
    | [v] => K (i + 1) L (.inl v :: st) h
    | _ => False
  | .ldc2_w _ => match e.2.2.2 with
    | [v] => K (i + 1) L (.inr (.inl v) :: st) h
    | _ => False
  | .lconst n => K (i + 1) L (.inr (.inl n.val) :: st) h
  | .iload k => match L[k]? with
    | some (some (.inl z)) => K (i + 1) L (.inl z :: st) h
    | _ => False
  | .iload_n k => match L[k.val]? with
    | some (some (.inl z)) => K (i + 1) L (.inl z :: st) h
    | _ => False
  | .lload k => match L[k]? with
    | some (some (.inr (.inl z))) => K (i + 1) L (.inr (.inl z) :: st) h
    | _ => False
  | .lload_n k => match L[k.val]? with
    | some (some (.inr (.inl z))) => K (i + 1) L (.inr (.inl z) :: st) h
    | _ => False
  | .aload k => match L[k]? with
    | some (some (.inr (.inr z))) => ¬ z = -1 ∧ K (i + 1) L (.inr (.inr z) :: st) h
    | _ => False
  | .aload_n k => match L[k.val]? with
    | some (some (.inr (.inr z))) => ¬ z = -1 ∧ K (i + 1) L (.inr (.inr z) :: st) h
    | _ => False
  | .istore k => match st with
    | .inl z :: r => K (i + 1) (jm_set L k (.inl z)) r h
    | _ => False
  | .istore_n k => match st with
    | .inl z :: r => K (i + 1) (jm_set L k.val (.inl z)) r h
    | _ => False
  | .lstore k => match st with
    | .inr (.inl z) :: r => K (i + 1) (jm_set2 L k (.inr (.inl z))) r h
    | _ => False
  | .lstore_n k => match st with
    | .inr (.inl z) :: r => K (i + 1) (jm_set2 L k.val (.inr (.inl z))) r h
    | _ => False
  | .astore k => match st with
    | .inr (.inr z) :: r => ¬ z = -1 ∧ K (i + 1) (jm_set L k (.inr (.inr z))) r h
    | _ => False
  | .astore_n k => match st with
    | .inr (.inr z) :: r => ¬ z = -1 ∧ K (i + 1) (jm_set L k.val (.inr (.inr z))) r h
    | _ => False
  | .iinc k n => match L[k]? with
    | some (some (.inl z)) => jm_r (z + n) ∧ K (i + 1) (jm_set L k (.inl (z + n))) st h
    | _ => False
  | .iadd => match st with
    | .inl b :: .inl a :: r => jm_r (a + b) ∧ K (i + 1) L (.inl (a + b) :: r) h
    | _ => False
  | .isub => match st with
    | .inl b :: .inl a :: r => jm_r (a - b) ∧ K (i + 1) L (.inl (a - b) :: r) h
    | _ => False
  | .imul => match st with
    | .inl b :: .inl a :: r => jm_r (a * b) ∧ K (i + 1) L (.inl (a * b) :: r) h
    | _ => False
  | .idiv => match st with
    | .inl b :: .inl a :: r => (0 ≤ a ∧ 0 < b) ∧ K (i + 1) L (.inl (a / b) :: r) h
    | _ => False
  | .irem => match st with
    | .inl b :: .inl a :: r => (0 ≤ a ∧ 0 < b) ∧ K (i + 1) L (.inl (a % b) :: r) h
    | _ => False
  | .ineg => match st with
    | .inl a :: r => jm_r (-a) ∧ K (i + 1) L (.inl (-a) :: r) h
    | _ => False
  | .iand => match st with
    | .inl b :: .inl a :: r => K (i + 1) L (.inl (jm_and a b) :: r) h
    | _ => False
  | .ior => match st with
    | .inl b :: .inl a :: r => K (i + 1) L (.inl (jm_or a b) :: r) h
    | _ => False
  | .ixor => match st with
    | .inl b :: .inl a :: r => K (i + 1) L (.inl (jm_xor a b) :: r) h
    | _ => False
  | .ishl => match st with
    | .inl b :: .inl a :: r => K (i + 1) L (.inl (jm_shl a b) :: r) h
    | _ => False
  | .ishr => match st with
    | .inl b :: .inl a :: r => K (i + 1) L (.inl (jm_shr a b) :: r) h
    | _ => False
  | .iushr => match st with
    | .inl b :: .inl a :: r => K (i + 1) L (.inl (jm_ushr a b) :: r) h
    | _ => False
  | .i2l => match st with
    | .inl a :: r => K (i + 1) L (.inr (.inl a) :: r) h
    | _ => False
  | .l2i => match st with
    | .inr (.inl a) :: r => jm_r a ∧ K (i + 1) L (.inl a :: r) h
    | _ => False
  | .i2b => match st with
    | .inl a :: r => K (i + 1) L (.inl (a.bmod 256) :: r) h
    | _ => False
  | .i2s => match st with
    | .inl a :: r => K (i + 1) L (.inl (a.bmod 65536) :: r) h
    | _ => False
  | .ladd => match st with
    | .inr (.inl b) :: .inr (.inl a) :: r => jm_rl (a + b) ∧ K (i + 1) L (.inr (.inl (a + b)) :: r) h
    | _ => False
  | .lmul => match st with
    | .inr (.inl b) :: .inr (.inl a) :: r => jm_rl (a * b) ∧ K (i + 1) L (.inr (.inl (a * b)) :: r) h
    | _ => False
  | .lrem => match st with
    | .inr (.inl b) :: .inr (.inl a) :: r => (0 ≤ a ∧ 0 < b) ∧ K (i + 1) L (.inr (.inl (a % b)) :: r) h
    | _ => False
  | .lcmp => match st with
    | .inr (.inl b) :: .inr (.inl a) :: r => K (i + 1) L (.inl (if a < b then -1 else if a = b then 0 else 1) :: r) h
    | _ => False
  | .dup => match st with
    | .inl a :: r => K (i + 1) L (.inl a :: .inl a :: r) h
    | .inr (.inr a) :: r => K (i + 1) L (.inr (.inr a) :: .inr (.inr a) :: r) h
    | _ => False
  | .dup2 => match st with
    | .inl a :: .inr (.inr b) :: r => K (i + 1) L (.inl a :: .inr (.inr b) :: .inl a :: .inr (.inr b) :: r) h
    | _ => False
  | .pop => match st with
    | .inl _ :: r => K (i + 1) L r h
    | _ => False
  | .ifCond c _ => match st, e.2.2.2 with
    | .inl a :: r, [t] => (jm_cond c a 0 → K t.toNat L r h) ∧ (¬ jm_cond c a 0 → K (i + 1) L r h)
    | _, _ => False
  | .if_icmp c _ => match st, e.2.2.2 with
    | .inl b :: .inl a :: r, [t] => (jm_cond c a b → K t.toNat L r h) ∧ (¬ jm_cond c a b → K (i + 1) L r h)
    | _, _ => False
  | .goto _ => match e.2.2.2 with
    | [t] => K t.toNat L st h
    | _ => False
  | .tableswitch _ _ _ _ => match st with
    | .inl a :: r => jm_sw (fun t => K t L r h) a e.2.2.2
    | _ => False
  | .lookupswitch _ _ => match st with
    | .inl a :: r => jm_sw (fun t => K t L r h) a e.2.2.2
    | _ => False
  | .getfield _ => match st, e.2.2.2 with
    | .inr (.inr z) :: r, [c, k, t] => match h.1[z.toNat]? with
      | some s => (0 ≤ z ∧ s.1 = 10 + c.toNat) ∧ K (i + 1) L ((if t = 2 then .inr (.inr (s.2.2.getD k.toNat (-1))) else .inl (h.2 z k)) :: r) h
      | none => False
    | _, _ => False
  | .putfield _ => match st, e.2.2.2 with
    | .inl v :: .inr (.inr z) :: r, [c, k, t] => match h.1[z.toNat]? with
      | some s => (0 ≤ z ∧ s.1 = 10 + c.toNat) ∧ (t = 0 ∨ (t = 1 ∧ (v = 0 ∨ v = 1))) ∧ K (i + 1) L r (h.1, jm_uc h.2 z (jm_u1 (h.2 z) k v))
      | none => False
    | .inr (.inr v) :: .inr (.inr z) :: r, [c, k, t] => match h.1[z.toNat]? with
      | some s => (0 ≤ z ∧ s.1 = 10 + c.toNat) ∧ (0 ≤ v ∧ t = 2) ∧ K (i + 1) L r (h.1.set z.toNat (s.1, s.2.1, s.2.2.set k.toNat v), h.2)
      | none => False
    | _, _ => False
  | .getstatic _ => match e.2.2.2 with
    | [k] => K (i + 1) L (.inr (.inr k) :: st) h
    | _ => False
  | .iaload => match st with
    | .inl j :: .inr (.inr z) :: r =>
      if 0 ≤ z then match h.1[z.toNat]? with
        | some s => s.1 = 0 ∧ (0 ≤ j ∧ j < s.2.1) ∧ K (i + 1) L (.inl (h.2 z j) :: r) h
        | none => False
      else ¬ z = -1 ∧ (0 ≤ j ∧ j < (X (-2 - z).toNat).1) ∧ K (i + 1) L (.inl ((X (-2 - z).toNat).2 j) :: r) h
    | _ => False
  | .baload => match st with
    | .inl j :: .inr (.inr z) :: r => match h.1[z.toNat]? with
        | some s => (0 ≤ z ∧ s.1 = 1) ∧ (0 ≤ j ∧ j < s.2.1) ∧ K (i + 1) L (.inl (h.2 z j) :: r) h
        | none => False
    | _ => False
  | .aaload => match st with
    | .inl j :: .inr (.inr z) :: r => match h.1[z.toNat]? with
        | some s => (0 ≤ z ∧ 2 ≤ s.1 ∧ s.1 < 5) ∧ (0 ≤ j ∧ j < s.2.1) ∧ K (i + 1) L (.inr (.inr (h.2 z j)) :: r) h
        | none => False
    | _ => False
  | .iastore => match st with
    | .inl v :: .inl j :: .inr (.inr z) :: r => match h.1[z.toNat]? with
        | some s => (0 ≤ z ∧ s.1 = 0) ∧ (0 ≤ j ∧ j < s.2.1) ∧ K (i + 1) L r (h.1, jm_uc h.2 z (jm_u1 (h.2 z) j v))
        | none => False
    | _ => False
  | .bastore => match st with
    | .inl v :: .inl j :: .inr (.inr z) :: r => match h.1[z.toNat]? with
        | some s => (0 ≤ z ∧ s.1 = 1) ∧ (0 ≤ j ∧ j < s.2.1) ∧ (v = 0 ∨ v = 1) ∧ K (i + 1) L r (h.1, jm_uc h.2 z (jm_u1 (h.2 z) j v))
        | none => False
    | _ => False
  | .aastore => match st with
    | .inr (.inr v) :: .inl j :: .inr (.inr z) :: r => match h.1[z.toNat]?, h.1[v.toNat]? with
        | some s, some q => (0 ≤ z ∧ 0 ≤ v ∧ ((s.1 = 2 ∧ q.1 = 15) ∨ (s.1 = 3 ∧ q.1 = 11) ∨ (s.1 = 4 ∧ q.1 = 14))) ∧ (0 ≤ j ∧ j < s.2.1) ∧ K (i + 1) L r (h.1, jm_uc h.2 z (jm_u1 (h.2 z) j v))
        | _, _ => False
    | _ => False
  | .arraylength => match st with
    | .inr (.inr z) :: r => z ≤ -2 ∧ K (i + 1) L (.inl (X (-2 - z).toNat).1 :: r) h
    | _ => False
  | .newarray ty => match st, e.2.2.2 with
    | .inl n :: r, [k] => ((k = 0 ∧ ty = .int) ∨ (k = 1 ∧ ty = .boolean)) ∧ (0 ≤ n ∧ n ≤ 100000) ∧ (h.1.length + 1 ≤ B.1 ∧ jm_tot h.1 + n.toNat ≤ B.2) ∧ K (i + 1) L (.inr (.inr h.1.length) :: r) (h.1 ++ [(k.toNat, n.toNat, [])], jm_uc h.2 h.1.length (fun _ => 0))
    | _, _ => False
  | .anewarray _ => match st, e.2.2.2 with
    | .inl n :: r, [k] => (2 ≤ k ∧ k < 5) ∧ (0 ≤ n ∧ n ≤ 100000) ∧ (h.1.length + 1 ≤ B.1 ∧ jm_tot h.1 + n.toNat ≤ B.2) ∧ K (i + 1) L (.inr (.inr h.1.length) :: r) (h.1 ++ [(k.toNat, n.toNat, [])], jm_uc h.2 h.1.length (fun _ => -1))
    | _, _ => False
  | .new _ => match e.2.2.2 with
    | [c, n] => (h.1.length + 1 ≤ B.1 ∧ jm_tot h.1 + n.toNat ≤ B.2) ∧ K (i + 1) L (.inr (.inr h.1.length) :: st) (h.1 ++ [(10 + c.toNat, n.toNat, List.replicate n.toNat (-1))], jm_uc h.2 h.1.length (fun _ => 0))
    | _ => False
  | .invokevirtual _ => match e.2.2.2 with
    | [n, a] => match st.drop a.toNat with
      | .inr (.inr z) :: r => (0 ≤ z ∧ r.length ≤ 4) ∧ C n.toNat (.inr (.inr z) :: (st.take a.toNat).reverse) h (fun v h' => K (i + 1) L (v ++ r) h')
      | _ => False
    | _ => False
  | .invokestatic _ => match e.2.2.2 with
    | [n, a] => (st.drop a.toNat).length ≤ 4 ∧ C n.toNat (st.take a.toNat).reverse h (fun v h' => K (i + 1) L (v ++ st.drop a.toNat) h')
    | [] => match st with
      | .inl n :: .inl dp :: .inr (.inr d) :: .inl sp :: .inr (.inr q) :: r => match h.1[q.toNat]?, h.1[d.toNat]? with
        | some s, some t => (0 ≤ q ∧ 0 ≤ d ∧ s.1 = 0 ∧ t.1 = 0 ∧ r.length ≤ 4) ∧ ((0 ≤ sp ∧ 0 ≤ dp ∧ 0 ≤ n) ∧ sp + n ≤ s.2.1 ∧ dp + n ≤ t.2.1) ∧ K (i + 1) L r (h.1, jm_uc h.2 d (jm_cpy (h.2 q) (h.2 d) sp dp n))
        | _, _ => False
      | _ => False
    | _ => False
  | .invokespecial _ => match e.2.2.2 with
    | [n, mc, ms] => match st with
      | .inr (.inr z) :: r => (0 ≤ z ∧ r.length ≤ 4) ∧ (h.1.length + mc.toNat ≤ B.1 ∧ jm_tot h.1 + ms.toNat ≤ B.2) ∧ C n.toNat [.inr (.inr z)] h (fun v h' => K (i + 1) L (v ++ r) h')
      | _ => False
    | [] => match st with
      | .inr (.inr z) :: r => (0 ≤ z ∧ r.length ≤ 4) ∧ K (i + 1) L r h
      | _ => False
    | _ => False
  | .ireturn => match st, e.2.2.2 with
    | [.inl v], [t] => (t = 0 ∨ (t = 1 ∧ (v = 0 ∨ v = 1))) ∧ Q [.inl v] h
    | _, _ => False
  | .return_ => match st with
    | [] => Q [] h
    | _ => False
  | _ => False
/-- from place i on the program comes to an end with Q -/
def jm_WP (X : jm_X) (C : jm_C) (B : Nat × Nat) (P : List jm_E) (Q : jm_Q) (i : Nat) (L : jm_L) (st : List jm_V) (h : jm_H) : Prop :=
  ∀ K : jm_K, (∀ (i : Nat) (e : jm_E) (L : jm_L) (st : List jm_V) (h : jm_H), P[i]? = some e → jm_sem X C B Q K e i L st h → K i L st h) → K i L st h
end
section
/-! what one instruction asks for is no more for a wider K -/
def jm_mono (C : jm_C) : Prop := ∀ (n : Nat) (a : List jm_V) (h : jm_H) (Q Q' : jm_Q), (∀ v h, Q v h → Q' v h) → C n a h Q → C n a h Q'
theorem jm_sw_mono {K K' : Nat → Prop} (hK : ∀ t, K t → K' t) (a : Int) : ∀ l : List Int, jm_sw K a l → jm_sw K' a l
  | [], h => h
  | [_], h => hK _ h
  | _ :: _ :: r, h => ⟨fun q => hK _ (h.1 q), fun q => jm_sw_mono hK a r (h.2 q)⟩
set_option maxHeartbeats 2000000 in
theorem jm_sem_mono {X : jm_X} {C : jm_C} {B : Nat × Nat} {Q : jm_Q} {K K' : jm_K} (hC : jm_mono C) (hK : ∀ i L st h, K i L st h → K' i L st h) (e : jm_E) (i : Nat) (L : jm_L) (st : List jm_V) (h : jm_H) :
    jm_sem X C B Q K e i L st h → jm_sem X C B Q K' e i L st h := by
  obtain ⟨pc, ins, len, res⟩ := e
  cases ins
  case tableswitch =>
    simp only [jm_sem]
    split
    · exact jm_sw_mono (fun t => hK t _ _ _) _ _
    · exact id
  case lookupswitch =>
    simp only [jm_sem]
    split
    · exact jm_sw_mono (fun t => hK t _ _ _) _ _
    · exact id
  case invokevirtual =>
    simp only [jm_sem]
    split
    · split
      · exact fun q => ⟨q.1, hC _ _ _ _ _ (fun v h => hK _ _ _ _) q.2⟩
      · exact id
    · exact id
  case invokestatic =>
    simp only [jm_sem]
    split
    · exact fun q => ⟨q.1, hC _ _ _ _ _ (fun v h => hK _ _ _ _) q.2⟩
    · split
      · split
        · exact fun q => ⟨q.1, q.2.1, hK _ _ _ _ q.2.2⟩
        · exact id
      · exact id
    · exact id
  case invokespecial =>
    simp only [jm_sem]
    split
    · split
      · exact fun q => ⟨q.1, q.2.1, hC _ _ _ _ _ (fun v h => hK _ _ _ _) q.2.2⟩
      · exact id
    · split
      · exact fun q => ⟨q.1, hK _ _ _ _ q.2⟩
      · exact id
    · exact id
  case ifCond =>
    simp only [jm_sem]
    split
    · exact fun q => ⟨fun z => hK _ _ _ _ (q.1 z), fun z => hK _ _ _ _ (q.2 z)⟩
    · exact id
  case if_icmp =>
    simp only [jm_sem]
    split
    · exact fun q => ⟨fun z => hK _ _ _ _ (q.1 z), fun z => hK _ _ _ _ (q.2 z)⟩
    · exact id
  all_goals
    simp only [jm_sem]
    first
      | exact id
      | exact hK _ _ _ _
      | (split <;> first | exact id | exact hK _ _ _ _ | exact fun q => ⟨q.1, hK _ _ _ _ q.2⟩ | exact fun q => ⟨q.1, q.2.1, hK _ _ _ _ q.2.2⟩ | exact fun q => ⟨q.1, q.2.1, q.2.2.1, hK _ _ _ _ q.2.2.2⟩)
      | (split <;> first | exact id | (split <;> first | exact id | exact fun q => ⟨q.1, hK _ _ _ _ q.2⟩ | exact fun q => ⟨q.1, q.2.1, hK _ _ _ _ q.2.2⟩ | exact fun q => ⟨q.1, q.2.1, q.2.2.1, hK _ _ _ _ q.2.2.2⟩))
      | (split <;> first | exact id | (split <;> first | exact id | exact fun q => ⟨q.1, hK _ _ _ _ q.2⟩ | exact fun q => ⟨q.1, q.2.1, hK _ _ _ _ q.2.2⟩ | (split <;> first | exact id | exact fun q => ⟨q.1, q.2.1, hK _ _ _ _ q.2.2⟩)))
theorem jm_fold {X : jm_X} {C : jm_C} {B : Nat × Nat} {P : List jm_E} {Q : jm_Q} (hC : jm_mono C) {i : Nat} {e : jm_E} {L : jm_L} {st : List jm_V} {h : jm_H} (he : P[i]? = some e)
    (k : jm_sem X C B Q (jm_WP X C B P Q) e i L st h) : jm_WP X C B P Q i L st h :=
  fun K hK => hK i e L st h he (jm_sem_mono hC (fun i L st h q => q K hK) e i L st h k)
/-! numbers -/
theorem jm_ti {z : Int} (h : jm_r z) : (Int32.ofInt z).toInt = z := Int32.toInt_ofInt_of_le (by have := h.1; omega) (by have := h.2; omega)
theorem jm_tl {z : Int} (h : jm_rl z) : (Int64.ofInt z).toInt = z := Int64.toInt_ofInt_of_le (by have := h.1; omega) (by have := h.2; omega)
theorem jm_lt {a b : Int} (ha : jm_r a) (hb : jm_r b) : Int32.ofInt a < Int32.ofInt b ↔ a < b := by rw [Int32.lt_iff_toInt_lt, jm_ti ha, jm_ti hb]
theorem jm_le {a b : Int} (ha : jm_r a) (hb : jm_r b) : Int32.ofInt a ≤ Int32.ofInt b ↔ a ≤ b := by rw [Int32.le_iff_toInt_le, jm_ti ha, jm_ti hb]
theorem jm_eq {a b : Int} (ha : jm_r a) (hb : jm_r b) : Int32.ofInt a = Int32.ofInt b ↔ a = b := by rw [← Int32.toInt_inj, jm_ti ha, jm_ti hb]
theorem jm_r0 : jm_r 0 := ⟨by decide, by decide⟩
theorem jm_rI (x : Int32) : jm_r x.toInt := by
  have h1 := x.le_toInt
  have h2 := x.toInt_lt
  exact ⟨by omega, by omega⟩
theorem jm_nn {z : Int} (h : jm_r z) : (Int32.ofInt z).toNatClampNeg = z.toNat := Int32.toNatClampNeg_ofInt_of_le (by have := h.1; omega) (by have := h.2; omega)
theorem jm_n0 {z : Int} (h : jm_r z) (h0 : 0 ≤ z) : ¬ Int32.ofInt z < 0 := by
  intro q
  have h2 := (jm_lt h jm_r0).mp q
  omega
theorem jm_vin {z : Int} {n : Nat} (h : jm_r z) (h0 : 0 ≤ z) (h1 : z < n) : vp_in (Int32.ofInt z) n := by
  intro q
  rcases q with q | q
  · exact jm_n0 h h0 q
  · rw [jm_nn h] at q
    omega
theorem jm_div {a b : Int} (ha : jm_r a) (hb : jm_r b) (h0 : 0 ≤ a) (h1 : 0 < b) : Int32.ofInt a / Int32.ofInt b = Int32.ofInt (a / b) := by
  have h2 : 0 ≤ a / b := Int.ediv_nonneg h0 (by omega)
  have h3 : a / b ≤ a := Int.ediv_le_self b h0
  have hr : jm_r (a / b) := ⟨by omega, by have := ha.2; omega⟩
  rw [← Int32.toInt_inj, lg_idiv_nonneg (by rw [jm_ti ha]; exact h0) (by rw [jm_ti hb]; exact h1), jm_ti ha, jm_ti hb, jm_ti hr]
theorem jm_rdiv {a b : Int} (ha : jm_r a) (h0 : 0 ≤ a) (h1 : 0 < b) : jm_r (a / b) := by
  have h2 : 0 ≤ a / b := Int.ediv_nonneg h0 (by omega)
  have h3 : a / b ≤ a := Int.ediv_le_self b h0
  exact ⟨by omega, by have := ha.2; omega⟩
theorem jm_rmod {a b : Int} (hb : jm_r b) (h1 : 0 < b) : jm_r (a % b) := by
  have h2 : 0 ≤ a % b := Int.emod_nonneg a (by omega)
  have h3 : a % b < b := Int.emod_lt_of_pos a h1
  exact ⟨by omega, by have := hb.2; omega⟩
theorem jm_mod {a b : Int} (ha : jm_r a) (hb : jm_r b) (h0 : 0 ≤ a) (h1 : 0 < b) : Int32.ofInt a - Int32.ofInt a / Int32.ofInt b * Int32.ofInt b = Int32.ofInt (a % b) := by
  rw [← Int32.toInt_inj, rem_toInt, jm_ti ha, jm_ti hb, jm_ti (jm_rmod hb h1), Int.tmod_eq_emod_of_nonneg h0]
theorem jm_rlmod {a b : Int} (hb : jm_rl b) (h1 : 0 < b) : jm_rl (a % b) := by
  have h2 : 0 ≤ a % b := Int.emod_nonneg a (by omega)
  have h3 : a % b < b := Int.emod_lt_of_pos a h1
  exact ⟨by omega, by have := hb.2; omega⟩
theorem jm_rldiv {a b : Int} (ha : jm_rl a) (h0 : 0 ≤ a) (h1 : 0 < b) : jm_rl (a / b) := by
  have h2 : 0 ≤ a / b := Int.ediv_nonneg h0 (by omega)
  have h3 : a / b ≤ a := Int.ediv_le_self b h0
  exact ⟨by omega, by have := ha.2; omega⟩
theorem jm_lmod {a b : Int} (ha : jm_rl a) (hb : jm_rl b) (h0 : 0 ≤ a) (h1 : 0 < b) : Int64.ofInt a - Int64.ofInt a / Int64.ofInt b * Int64.ofInt b = Int64.ofInt (a % b) := by
  have e1 : Int64.ofInt a / Int64.ofInt b = Int64.ofInt (a / b) := by
    rw [← Int64.toInt_inj, lg_ldiv_nonneg (by rw [jm_tl ha]; exact h0) (by rw [jm_tl hb]; exact h1), jm_tl ha, jm_tl hb, jm_tl (jm_rldiv ha h0 h1)]
  rw [e1, ← Int64.ofInt_mul, ← Int64.ofInt_sub]
  congr 1
  have := Int.emod_add_mul_ediv a b
  rw [Int.mul_comm] at this
  omega
theorem jm_b {a : Int} (h : jm_r a) : (Int32.ofInt a).toInt8.toInt32 = Int32.ofInt (a.bmod 256) := by
  have h1 := lg_i2b_range (Int32.ofInt a)
  have h2 := lg_i2b_toInt (Int32.ofInt a)
  rw [jm_ti h] at h2
  rw [show (2 : Nat) ^ 8 = 256 from rfl] at h2
  rw [← Int32.toInt_inj, jm_ti ⟨by rw [← h2]; omega, by rw [← h2]; omega⟩, h2]
theorem jm_rb (a : Int) : jm_r (a.bmod 256) := by
  have h1 := @Int.le_bmod a 256 (by decide)
  have h2 := @Int.bmod_lt a 256 (by decide)
  exact ⟨by omega, by omega⟩
theorem jm_s {a : Int} (h : jm_r a) : (Int32.ofInt a).toInt16.toInt32 = Int32.ofInt (a.bmod 65536) := by
  have h1 := lg_i2s_range (Int32.ofInt a)
  have h2 := lg_i2s_toInt (Int32.ofInt a)
  rw [jm_ti h] at h2
  rw [show (2 : Nat) ^ 16 = 65536 from rfl] at h2
  rw [← Int32.toInt_inj, jm_ti ⟨by rw [← h2]; omega, by rw [← h2]; omega⟩, h2]
theorem jm_rs (a : Int) : jm_r (a.bmod 65536) := by
  have h1 := @Int.le_bmod a 65536 (by decide)
  have h2 := @Int.bmod_lt a 65536 (by decide)
  exact ⟨by omega, by omega⟩
theorem jm_i2l {a : Int} (h : jm_r a) : (Int32.ofInt a).toInt64 = Int64.ofInt a := by
  rw [← Int64.toInt_inj, Int32.toInt_toInt64, jm_ti h, jm_tl ⟨by have := h.1; omega, by have := h.2; omega⟩]
theorem jm_lc {a b : Int} (ha : jm_rl a) (hb : jm_rl b) : lg_cmp (Int64.ofInt a) (Int64.ofInt b) = Int32.ofInt (if a < b then -1 else if a = b then 0 else 1) := by
  unfold lg_cmp
  simp only [gt_iff_lt, Int64.lt_iff_toInt_lt, ← Int64.toInt_inj, jm_tl ha, jm_tl hb]
  by_cases h1 : a < b
  · have h2 : ¬ b < a := by omega
    have h3 : ¬ a = b := by omega
    rw [if_neg h2, if_neg h3, if_pos h1]; rfl
  · rw [if_neg h1]
    by_cases h3 : a = b
    · have h2 : ¬ b < a := by omega
      rw [if_neg h2, if_pos h3, if_pos h3]; rfl
    · have h2 : b < a := by omega
      rw [if_pos h2, if_neg h3]; rfl
theorem jm_rc (a b : Int) : jm_r (if a < b then -1 else if a = b then 0 else 1) := by
  split
  · exact ⟨by decide, by decide⟩
  · split <;> exact ⟨by decide, by decide⟩
end
