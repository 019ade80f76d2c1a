section
-- ===== PART A: goes FIRST, ahead of the names: the tables' words, and 'selects' of the private methods out of them =====
/-- a private method of a class that the tables say can be made, by its rows of tables_1 -/
def lw_okq (q : MethodName × Nat) : Prop := (q.1.cls ≠ "java/lang/invoke/MethodHandle" ∧ q.1.cls ≠ "java/lang/invoke/VarHandle") ∧ Cond.instantiable q.1.cls q.2 ∈ tables_1 ∧ Cond.privateMethod q.1 ∈ tables_1 ∧ Cond.instanceMethod q.1 ∈ tables_1
theorem lw_p0 : lw_okq (⟨"MatNations", "found", "(I)I"⟩, 12) := ⟨⟨by decide +kernel, by decide +kernel⟩, List.mem_of_getElem? (i := 16) (by decide +kernel), List.mem_of_getElem? (i := 297) (by decide +kernel), List.mem_of_getElem? (i := 298) (by decide +kernel)⟩
theorem lw_p1 : lw_okq (⟨"MatNations", "unfound", "(I)I"⟩, 12) := ⟨⟨by decide +kernel, by decide +kernel⟩, List.mem_of_getElem? (i := 16) (by decide +kernel), List.mem_of_getElem? (i := 306) (by decide +kernel), List.mem_of_getElem? (i := 307) (by decide +kernel)⟩
theorem lw_p2 : lw_okq (⟨"MatNations$Reader", "readLaw", "(LMatNations$House;)Z"⟩, 4) := ⟨⟨by decide +kernel, by decide +kernel⟩, List.mem_of_getElem? (i := 41) (by decide +kernel), List.mem_of_getElem? (i := 378) (by decide +kernel), List.mem_of_getElem? (i := 379) (by decide +kernel)⟩
theorem lw_p3 : lw_okq (⟨"MatNations$Reader", "takeByte", "(I)Z"⟩, 4) := ⟨⟨by decide +kernel, by decide +kernel⟩, List.mem_of_getElem? (i := 41) (by decide +kernel), List.mem_of_getElem? (i := 382) (by decide +kernel), List.mem_of_getElem? (i := 383) (by decide +kernel)⟩
theorem lw_p4 : lw_okq (⟨"MatNations$Reader", "seen", "()I"⟩, 4) := ⟨⟨by decide +kernel, by decide +kernel⟩, List.mem_of_getElem? (i := 41) (by decide +kernel), List.mem_of_getElem? (i := 386) (by decide +kernel), List.mem_of_getElem? (i := 387) (by decide +kernel)⟩
theorem lw_p5 : lw_okq (⟨"MatNations$Reader", "refuse", "(I)Z"⟩, 4) := ⟨⟨by decide +kernel, by decide +kernel⟩, List.mem_of_getElem? (i := 41) (by decide +kernel), List.mem_of_getElem? (i := 390) (by decide +kernel), List.mem_of_getElem? (i := 391) (by decide +kernel)⟩
theorem lw_p6 : lw_okq (⟨"MatNations$Reader", "takeNumber", "(II)I"⟩, 4) := ⟨⟨by decide +kernel, by decide +kernel⟩, List.mem_of_getElem? (i := 41) (by decide +kernel), List.mem_of_getElem? (i := 394) (by decide +kernel), List.mem_of_getElem? (i := 395) (by decide +kernel)⟩
theorem lw_p7 : lw_okq (⟨"MatNations$Reader", "readMats", "(LMatNations$House;)Z"⟩, 4) := ⟨⟨by decide +kernel, by decide +kernel⟩, List.mem_of_getElem? (i := 41) (by decide +kernel), List.mem_of_getElem? (i := 401) (by decide +kernel), List.mem_of_getElem? (i := 402) (by decide +kernel)⟩
theorem lw_p8 : lw_okq (⟨"MatNations$Reader", "readComers", "(LMatNations$House;)Z"⟩, 4) := ⟨⟨by decide +kernel, by decide +kernel⟩, List.mem_of_getElem? (i := 41) (by decide +kernel), List.mem_of_getElem? (i := 405) (by decide +kernel), List.mem_of_getElem? (i := 406) (by decide +kernel)⟩
theorem lw_p9 : lw_okq (⟨"MatNations$Reader", "readTraits", "(LMatNations$Comer;)Z"⟩, 4) := ⟨⟨by decide +kernel, by decide +kernel⟩, List.mem_of_getElem? (i := 41) (by decide +kernel), List.mem_of_getElem? (i := 412) (by decide +kernel), List.mem_of_getElem? (i := 413) (by decide +kernel)⟩
theorem lw_p10 : lw_okq (⟨"MatNations", "noComer", "(I)Z"⟩, 12) := ⟨⟨by decide +kernel, by decide +kernel⟩, List.mem_of_getElem? (i := 16) (by decide +kernel), List.mem_of_getElem? (i := 446) (by decide +kernel), List.mem_of_getElem? (i := 447) (by decide +kernel)⟩
theorem lw_p11 : lw_okq (⟨"MatNations", "noMat", "(I)Z"⟩, 12) := ⟨⟨by decide +kernel, by decide +kernel⟩, List.mem_of_getElem? (i := 16) (by decide +kernel), List.mem_of_getElem? (i := 487) (by decide +kernel), List.mem_of_getElem? (i := 488) (by decide +kernel)⟩
theorem lw_p12 : lw_okq (⟨"MatNations", "noHotel", "()Z"⟩, 12) := ⟨⟨by decide +kernel, by decide +kernel⟩, List.mem_of_getElem? (i := 16) (by decide +kernel), List.mem_of_getElem? (i := 505) (by decide +kernel), List.mem_of_getElem? (i := 506) (by decide +kernel)⟩
theorem lw_p13 : lw_okq (⟨"MatNations$Foretold", "tryOrders", "(LMatNations$House;III)V"⟩, 6) := ⟨⟨by decide +kernel, by decide +kernel⟩, List.mem_of_getElem? (i := 210) (by decide +kernel), List.mem_of_getElem? (i := 584) (by decide +kernel), List.mem_of_getElem? (i := 585) (by decide +kernel)⟩
theorem lw_p14 : lw_okq (⟨"MatNations$Foretold", "keepTried", "(II)V"⟩, 6) := ⟨⟨by decide +kernel, by decide +kernel⟩, List.mem_of_getElem? (i := 210) (by decide +kernel), List.mem_of_getElem? (i := 588) (by decide +kernel), List.mem_of_getElem? (i := 589) (by decide +kernel)⟩
theorem lw_p15 : lw_okq (⟨"MatNations$Foretold", "tryLayings", "(LMatNations$House;II)V"⟩, 6) := ⟨⟨by decide +kernel, by decide +kernel⟩, List.mem_of_getElem? (i := 210) (by decide +kernel), List.mem_of_getElem? (i := 606) (by decide +kernel), List.mem_of_getElem? (i := 607) (by decide +kernel)⟩
def lw_privs_1 : List (MethodName × Nat) := [(⟨"MatNations", "found", "(I)I"⟩, 12), (⟨"MatNations", "unfound", "(I)I"⟩, 12), (⟨"MatNations$Reader", "readLaw", "(LMatNations$House;)Z"⟩, 4), (⟨"MatNations$Reader", "takeByte", "(I)Z"⟩, 4), (⟨"MatNations$Reader", "seen", "()I"⟩, 4), (⟨"MatNations$Reader", "refuse", "(I)Z"⟩, 4), (⟨"MatNations$Reader", "takeNumber", "(II)I"⟩, 4), (⟨"MatNations$Reader", "readMats", "(LMatNations$House;)Z"⟩, 4), (⟨"MatNations$Reader", "readComers", "(LMatNations$House;)Z"⟩, 4), (⟨"MatNations$Reader", "readTraits", "(LMatNations$Comer;)Z"⟩, 4), (⟨"MatNations", "noComer", "(I)Z"⟩, 12), (⟨"MatNations", "noMat", "(I)Z"⟩, 12), (⟨"MatNations", "noHotel", "()Z"⟩, 12), (⟨"MatNations$Foretold", "tryOrders", "(LMatNations$House;III)V"⟩, 6), (⟨"MatNations$Foretold", "keepTried", "(II)V"⟩, 6), (⟨"MatNations$Foretold", "tryLayings", "(LMatNations$House;II)V"⟩, 6)]
theorem lw_r1 : ∀ q ∈ lw_privs_1, lw_okq q := List.forall_mem_cons.mpr ⟨lw_p0, List.forall_mem_cons.mpr ⟨lw_p1, List.forall_mem_cons.mpr ⟨lw_p2, List.forall_mem_cons.mpr ⟨lw_p3, List.forall_mem_cons.mpr ⟨lw_p4, List.forall_mem_cons.mpr ⟨lw_p5, List.forall_mem_cons.mpr ⟨lw_p6, List.forall_mem_cons.mpr ⟨lw_p7, List.forall_mem_cons.mpr ⟨lw_p8, List.forall_mem_cons.mpr ⟨lw_p9, List.forall_mem_cons.mpr ⟨lw_p10, List.forall_mem_cons.mpr ⟨lw_p11, List.forall_mem_cons.mpr ⟨lw_p12, List.forall_mem_cons.mpr ⟨lw_p13, List.forall_mem_cons.mpr ⟨lw_p14, List.forall_mem_cons.mpr ⟨lw_p15, fun _ h => absurd h List.not_mem_nil⟩⟩⟩⟩⟩⟩⟩⟩⟩⟩⟩⟩⟩⟩⟩⟩
theorem lw_p16 : lw_okq (⟨"MatNations$Foretold", "carriedIfBeaten", "(LMatNations$House;II)I"⟩, 6) := ⟨⟨by decide +kernel, by decide +kernel⟩, List.mem_of_getElem? (i := 210) (by decide +kernel), List.mem_of_getElem? (i := 640) (by decide +kernel), List.mem_of_getElem? (i := 641) (by decide +kernel)⟩
theorem lw_p17 : lw_okq (⟨"MatNations$Foretold", "bindsTo", "(LMatNations$House;III)Z"⟩, 6) := ⟨⟨by decide +kernel, by decide +kernel⟩, List.mem_of_getElem? (i := 210) (by decide +kernel), List.mem_of_getElem? (i := 668) (by decide +kernel), List.mem_of_getElem? (i := 669) (by decide +kernel)⟩
theorem lw_p18 : lw_okq (⟨"MatNations", "matRowFinding", "(II)I"⟩, 12) := ⟨⟨by decide +kernel, by decide +kernel⟩, List.mem_of_getElem? (i := 16) (by decide +kernel), List.mem_of_getElem? (i := 676) (by decide +kernel), List.mem_of_getElem? (i := 677) (by decide +kernel)⟩
theorem lw_p19 : lw_okq (⟨"MatNations$Foretold", "isSoBehind", "(LMatNations$House;LMatNations$Comer;LMatNations$Rows;II)Z"⟩, 6) := ⟨⟨by decide +kernel, by decide +kernel⟩, List.mem_of_getElem? (i := 210) (by decide +kernel), List.mem_of_getElem? (i := 684) (by decide +kernel), List.mem_of_getElem? (i := 685) (by decide +kernel)⟩
theorem lw_p20 : lw_okq (⟨"MatNations$Foretold", "giveTrait", "(II)V"⟩, 6) := ⟨⟨by decide +kernel, by decide +kernel⟩, List.mem_of_getElem? (i := 210) (by decide +kernel), List.mem_of_getElem? (i := 709) (by decide +kernel), List.mem_of_getElem? (i := 710) (by decide +kernel)⟩
theorem lw_p21 : lw_okq (⟨"MatNations$Asks", "give", "(ILMatNations$Comer;II)I"⟩, 2) := ⟨⟨by decide +kernel, by decide +kernel⟩, List.mem_of_getElem? (i := 239) (by decide +kernel), List.mem_of_getElem? (i := 783) (by decide +kernel), List.mem_of_getElem? (i := 784) (by decide +kernel)⟩
theorem lw_p22 : lw_okq (⟨"MatNations$Asks", "leaveTrace", "(I)V"⟩, 2) := ⟨⟨by decide +kernel, by decide +kernel⟩, List.mem_of_getElem? (i := 239) (by decide +kernel), List.mem_of_getElem? (i := 787) (by decide +kernel), List.mem_of_getElem? (i := 788) (by decide +kernel)⟩
theorem lw_p23 : lw_okq (⟨"MatNationsModel", "find", "(I)I"⟩, 18) := ⟨⟨by decide +kernel, by decide +kernel⟩, List.mem_of_getElem? (i := 830) (by decide +kernel), List.mem_of_getElem? (i := 904) (by decide +kernel), List.mem_of_getElem? (i := 905) (by decide +kernel)⟩
theorem lw_p24 : lw_okq (⟨"MatNationsModel", "well", "(I)I"⟩, 18) := ⟨⟨by decide +kernel, by decide +kernel⟩, List.mem_of_getElem? (i := 830) (by decide +kernel), List.mem_of_getElem? (i := 909) (by decide +kernel), List.mem_of_getElem? (i := 910) (by decide +kernel)⟩
theorem lw_p25 : lw_okq (⟨"MatNationsModel", "isSpan", "(III)Z"⟩, 18) := ⟨⟨by decide +kernel, by decide +kernel⟩, List.mem_of_getElem? (i := 830) (by decide +kernel), List.mem_of_getElem? (i := 924) (by decide +kernel), List.mem_of_getElem? (i := 925) (by decide +kernel)⟩
theorem lw_p26 : lw_okq (⟨"MatNationsModel", "reads", "()Z"⟩, 18) := ⟨⟨by decide +kernel, by decide +kernel⟩, List.mem_of_getElem? (i := 830) (by decide +kernel), List.mem_of_getElem? (i := 942) (by decide +kernel), List.mem_of_getElem? (i := 943) (by decide +kernel)⟩
theorem lw_p27 : lw_okq (⟨"MatNationsModel", "readsLaw", "()Z"⟩, 18) := ⟨⟨by decide +kernel, by decide +kernel⟩, List.mem_of_getElem? (i := 830) (by decide +kernel), List.mem_of_getElem? (i := 946) (by decide +kernel), List.mem_of_getElem? (i := 947) (by decide +kernel)⟩
theorem lw_p28 : lw_okq (⟨"MatNationsModel", "sign", "(I)Z"⟩, 18) := ⟨⟨by decide +kernel, by decide +kernel⟩, List.mem_of_getElem? (i := 830) (by decide +kernel), List.mem_of_getElem? (i := 950) (by decide +kernel), List.mem_of_getElem? (i := 951) (by decide +kernel)⟩
theorem lw_p29 : lw_okq (⟨"MatNationsModel", "isLetter", "(I)Z"⟩, 18) := ⟨⟨by decide +kernel, by decide +kernel⟩, List.mem_of_getElem? (i := 830) (by decide +kernel), List.mem_of_getElem? (i := 954) (by decide +kernel), List.mem_of_getElem? (i := 955) (by decide +kernel)⟩
theorem lw_p30 : lw_okq (⟨"MatNationsModel", "refuse", "(I)Z"⟩, 18) := ⟨⟨by decide +kernel, by decide +kernel⟩, List.mem_of_getElem? (i := 830) (by decide +kernel), List.mem_of_getElem? (i := 958) (by decide +kernel), List.mem_of_getElem? (i := 959) (by decide +kernel)⟩
theorem lw_p31 : lw_okq (⟨"MatNationsModel", "readsNumber", "(II)Z"⟩, 18) := ⟨⟨by decide +kernel, by decide +kernel⟩, List.mem_of_getElem? (i := 830) (by decide +kernel), List.mem_of_getElem? (i := 962) (by decide +kernel), List.mem_of_getElem? (i := 963) (by decide +kernel)⟩
def lw_privs_2 : List (MethodName × Nat) := [(⟨"MatNations$Foretold", "carriedIfBeaten", "(LMatNations$House;II)I"⟩, 6), (⟨"MatNations$Foretold", "bindsTo", "(LMatNations$House;III)Z"⟩, 6), (⟨"MatNations", "matRowFinding", "(II)I"⟩, 12), (⟨"MatNations$Foretold", "isSoBehind", "(LMatNations$House;LMatNations$Comer;LMatNations$Rows;II)Z"⟩, 6), (⟨"MatNations$Foretold", "giveTrait", "(II)V"⟩, 6), (⟨"MatNations$Asks", "give", "(ILMatNations$Comer;II)I"⟩, 2), (⟨"MatNations$Asks", "leaveTrace", "(I)V"⟩, 2), (⟨"MatNationsModel", "find", "(I)I"⟩, 18), (⟨"MatNationsModel", "well", "(I)I"⟩, 18), (⟨"MatNationsModel", "isSpan", "(III)Z"⟩, 18), (⟨"MatNationsModel", "reads", "()Z"⟩, 18), (⟨"MatNationsModel", "readsLaw", "()Z"⟩, 18), (⟨"MatNationsModel", "sign", "(I)Z"⟩, 18), (⟨"MatNationsModel", "isLetter", "(I)Z"⟩, 18), (⟨"MatNationsModel", "refuse", "(I)Z"⟩, 18), (⟨"MatNationsModel", "readsNumber", "(II)Z"⟩, 18)]
theorem lw_r2 : ∀ q ∈ lw_privs_2, lw_okq q := List.forall_mem_cons.mpr ⟨lw_p16, List.forall_mem_cons.mpr ⟨lw_p17, List.forall_mem_cons.mpr ⟨lw_p18, List.forall_mem_cons.mpr ⟨lw_p19, List.forall_mem_cons.mpr ⟨lw_p20, List.forall_mem_cons.mpr ⟨lw_p21, List.forall_mem_cons.mpr ⟨lw_p22, List.forall_mem_cons.mpr ⟨lw_p23, List.forall_mem_cons.mpr ⟨lw_p24, List.forall_mem_cons.mpr ⟨lw_p25, List.forall_mem_cons.mpr ⟨lw_p26, List.forall_mem_cons.mpr ⟨lw_p27, List.forall_mem_cons.mpr ⟨lw_p28, List.forall_mem_cons.mpr ⟨lw_p29, List.forall_mem_cons.mpr ⟨lw_p30, List.forall_mem_cons.mpr ⟨lw_p31, fun _ h => absurd h List.not_mem_nil⟩⟩⟩⟩⟩⟩⟩⟩⟩⟩⟩⟩⟩⟩⟩⟩
theorem lw_p32 : lw_okq (⟨"MatNationsModel", "isFigure", "(I)Z"⟩, 18) := ⟨⟨by decide +kernel, by decide +kernel⟩, List.mem_of_getElem? (i := 830) (by decide +kernel), List.mem_of_getElem? (i := 966) (by decide +kernel), List.mem_of_getElem? (i := 967) (by decide +kernel)⟩
theorem lw_p33 : lw_okq (⟨"MatNationsModel", "readsMat", "()Z"⟩, 18) := ⟨⟨by decide +kernel, by decide +kernel⟩, List.mem_of_getElem? (i := 830) (by decide +kernel), List.mem_of_getElem? (i := 972) (by decide +kernel), List.mem_of_getElem? (i := 973) (by decide +kernel)⟩
theorem lw_p34 : lw_okq (⟨"MatNationsModel", "isSort", "()Z"⟩, 18) := ⟨⟨by decide +kernel, by decide +kernel⟩, List.mem_of_getElem? (i := 830) (by decide +kernel), List.mem_of_getElem? (i := 976) (by decide +kernel), List.mem_of_getElem? (i := 977) (by decide +kernel)⟩
theorem lw_p35 : lw_okq (⟨"MatNationsModel", "readsComer", "()Z"⟩, 18) := ⟨⟨by decide +kernel, by decide +kernel⟩, List.mem_of_getElem? (i := 830) (by decide +kernel), List.mem_of_getElem? (i := 983) (by decide +kernel), List.mem_of_getElem? (i := 984) (by decide +kernel)⟩
theorem lw_p36 : lw_okq (⟨"MatNationsModel", "copyTown", "(II)V"⟩, 18) := ⟨⟨by decide +kernel, by decide +kernel⟩, List.mem_of_getElem? (i := 830) (by decide +kernel), List.mem_of_getElem? (i := 988) (by decide +kernel), List.mem_of_getElem? (i := 989) (by decide +kernel)⟩
theorem lw_p37 : lw_okq (⟨"MatNationsModel", "isComer", "(I)Z"⟩, 18) := ⟨⟨by decide +kernel, by decide +kernel⟩, List.mem_of_getElem? (i := 830) (by decide +kernel), List.mem_of_getElem? (i := 1005) (by decide +kernel), List.mem_of_getElem? (i := 1006) (by decide +kernel)⟩
theorem lw_p38 : lw_okq (⟨"MatNationsModel", "keepPast", "()V"⟩, 18) := ⟨⟨by decide +kernel, by decide +kernel⟩, List.mem_of_getElem? (i := 830) (by decide +kernel), List.mem_of_getElem? (i := 1009) (by decide +kernel), List.mem_of_getElem? (i := 1010) (by decide +kernel)⟩
theorem lw_p39 : lw_okq (⟨"MatNationsModel", "comesAt", "(II)I"⟩, 18) := ⟨⟨by decide +kernel, by decide +kernel⟩, List.mem_of_getElem? (i := 830) (by decide +kernel), List.mem_of_getElem? (i := 1013) (by decide +kernel), List.mem_of_getElem? (i := 1014) (by decide +kernel)⟩
theorem lw_p40 : lw_okq (⟨"MatNationsModel", "leavesOn", "(IIII)I"⟩, 18) := ⟨⟨by decide +kernel, by decide +kernel⟩, List.mem_of_getElem? (i := 830) (by decide +kernel), List.mem_of_getElem? (i := 1017) (by decide +kernel), List.mem_of_getElem? (i := 1018) (by decide +kernel)⟩
theorem lw_p41 : lw_okq (⟨"MatNationsModel", "liesOn", "(II)I"⟩, 18) := ⟨⟨by decide +kernel, by decide +kernel⟩, List.mem_of_getElem? (i := 830) (by decide +kernel), List.mem_of_getElem? (i := 1021) (by decide +kernel), List.mem_of_getElem? (i := 1022) (by decide +kernel)⟩
theorem lw_p42 : lw_okq (⟨"MatNationsModel", "isMat", "(I)Z"⟩, 18) := ⟨⟨by decide +kernel, by decide +kernel⟩, List.mem_of_getElem? (i := 830) (by decide +kernel), List.mem_of_getElem? (i := 1029) (by decide +kernel), List.mem_of_getElem? (i := 1030) (by decide +kernel)⟩
theorem lw_p43 : lw_okq (⟨"MatNationsModel", "beatsAt", "(II)I"⟩, 18) := ⟨⟨by decide +kernel, by decide +kernel⟩, List.mem_of_getElem? (i := 830) (by decide +kernel), List.mem_of_getElem? (i := 1033) (by decide +kernel), List.mem_of_getElem? (i := 1034) (by decide +kernel)⟩
theorem lw_p44 : lw_okq (⟨"MatNationsModel", "swapPlaces", "(II)V"⟩, 18) := ⟨⟨by decide +kernel, by decide +kernel⟩, List.mem_of_getElem? (i := 830) (by decide +kernel), List.mem_of_getElem? (i := 1041) (by decide +kernel), List.mem_of_getElem? (i := 1042) (by decide +kernel)⟩
theorem lw_p45 : lw_okq (⟨"MatNationsModel", "masterOf", "(I)I"⟩, 18) := ⟨⟨by decide +kernel, by decide +kernel⟩, List.mem_of_getElem? (i := 830) (by decide +kernel), List.mem_of_getElem? (i := 1058) (by decide +kernel), List.mem_of_getElem? (i := 1059) (by decide +kernel)⟩
theorem lw_p46 : lw_okq (⟨"MatNationsModel", "areAtOne", "(III)Z"⟩, 18) := ⟨⟨by decide +kernel, by decide +kernel⟩, List.mem_of_getElem? (i := 830) (by decide +kernel), List.mem_of_getElem? (i := 1072) (by decide +kernel), List.mem_of_getElem? (i := 1073) (by decide +kernel)⟩
theorem lw_p47 : lw_okq (⟨"MatNationsModel", "carriesIf", "(I)I"⟩, 18) := ⟨⟨by decide +kernel, by decide +kernel⟩, List.mem_of_getElem? (i := 830) (by decide +kernel), List.mem_of_getElem? (i := 1080) (by decide +kernel), List.mem_of_getElem? (i := 1081) (by decide +kernel)⟩
def lw_privs_3 : List (MethodName × Nat) := [(⟨"MatNationsModel", "isFigure", "(I)Z"⟩, 18), (⟨"MatNationsModel", "readsMat", "()Z"⟩, 18), (⟨"MatNationsModel", "isSort", "()Z"⟩, 18), (⟨"MatNationsModel", "readsComer", "()Z"⟩, 18), (⟨"MatNationsModel", "copyTown", "(II)V"⟩, 18), (⟨"MatNationsModel", "isComer", "(I)Z"⟩, 18), (⟨"MatNationsModel", "keepPast", "()V"⟩, 18), (⟨"MatNationsModel", "comesAt", "(II)I"⟩, 18), (⟨"MatNationsModel", "leavesOn", "(IIII)I"⟩, 18), (⟨"MatNationsModel", "liesOn", "(II)I"⟩, 18), (⟨"MatNationsModel", "isMat", "(I)Z"⟩, 18), (⟨"MatNationsModel", "beatsAt", "(II)I"⟩, 18), (⟨"MatNationsModel", "swapPlaces", "(II)V"⟩, 18), (⟨"MatNationsModel", "masterOf", "(I)I"⟩, 18), (⟨"MatNationsModel", "areAtOne", "(III)Z"⟩, 18), (⟨"MatNationsModel", "carriesIf", "(I)I"⟩, 18)]
theorem lw_r3 : ∀ q ∈ lw_privs_3, lw_okq q := List.forall_mem_cons.mpr ⟨lw_p32, List.forall_mem_cons.mpr ⟨lw_p33, List.forall_mem_cons.mpr ⟨lw_p34, List.forall_mem_cons.mpr ⟨lw_p35, List.forall_mem_cons.mpr ⟨lw_p36, List.forall_mem_cons.mpr ⟨lw_p37, List.forall_mem_cons.mpr ⟨lw_p38, List.forall_mem_cons.mpr ⟨lw_p39, List.forall_mem_cons.mpr ⟨lw_p40, List.forall_mem_cons.mpr ⟨lw_p41, List.forall_mem_cons.mpr ⟨lw_p42, List.forall_mem_cons.mpr ⟨lw_p43, List.forall_mem_cons.mpr ⟨lw_p44, List.forall_mem_cons.mpr ⟨lw_p45, List.forall_mem_cons.mpr ⟨lw_p46, List.forall_mem_cons.mpr ⟨lw_p47, fun _ h => absurd h List.not_mem_nil⟩⟩⟩⟩⟩⟩⟩⟩⟩⟩⟩⟩⟩⟩⟩⟩
theorem lw_p48 : lw_okq (⟨"MatNationsModel", "layTried", "()V"⟩, 18) := ⟨⟨by decide +kernel, by decide +kernel⟩, List.mem_of_getElem? (i := 830) (by decide +kernel), List.mem_of_getElem? (i := 1084) (by decide +kernel), List.mem_of_getElem? (i := 1085) (by decide +kernel)⟩
theorem lw_p49 : lw_okq (⟨"MatNationsModel", "layLine", "(I)V"⟩, 18) := ⟨⟨by decide +kernel, by decide +kernel⟩, List.mem_of_getElem? (i := 830) (by decide +kernel), List.mem_of_getElem? (i := 1101) (by decide +kernel), List.mem_of_getElem? (i := 1102) (by decide +kernel)⟩
theorem lw_p50 : lw_okq (⟨"MatNationsModel", "takeLine", "()V"⟩, 18) := ⟨⟨by decide +kernel, by decide +kernel⟩, List.mem_of_getElem? (i := 830) (by decide +kernel), List.mem_of_getElem? (i := 1105) (by decide +kernel), List.mem_of_getElem? (i := 1106) (by decide +kernel)⟩
theorem lw_p51 : lw_okq (⟨"MatNationsModel", "nextLine", "(I)Z"⟩, 18) := ⟨⟨by decide +kernel, by decide +kernel⟩, List.mem_of_getElem? (i := 830) (by decide +kernel), List.mem_of_getElem? (i := 1109) (by decide +kernel), List.mem_of_getElem? (i := 1110) (by decide +kernel)⟩
theorem lw_p52 : lw_okq (⟨"MatNationsModel", "swapLine", "(II)V"⟩, 18) := ⟨⟨by decide +kernel, by decide +kernel⟩, List.mem_of_getElem? (i := 830) (by decide +kernel), List.mem_of_getElem? (i := 1113) (by decide +kernel), List.mem_of_getElem? (i := 1114) (by decide +kernel)⟩
theorem lw_p53 : lw_okq (⟨"MatNationsModel", "layMats", "()V"⟩, 18) := ⟨⟨by decide +kernel, by decide +kernel⟩, List.mem_of_getElem? (i := 830) (by decide +kernel), List.mem_of_getElem? (i := 1122) (by decide +kernel), List.mem_of_getElem? (i := 1123) (by decide +kernel)⟩
theorem lw_p54 : lw_okq (⟨"MatNationsModel", "comeAll", "(I)I"⟩, 18) := ⟨⟨by decide +kernel, by decide +kernel⟩, List.mem_of_getElem? (i := 830) (by decide +kernel), List.mem_of_getElem? (i := 1126) (by decide +kernel), List.mem_of_getElem? (i := 1127) (by decide +kernel)⟩
theorem lw_p55 : lw_okq (⟨"MatNationsModel", "noItems", "(II)I"⟩, 18) := ⟨⟨by decide +kernel, by decide +kernel⟩, List.mem_of_getElem? (i := 830) (by decide +kernel), List.mem_of_getElem? (i := 1153) (by decide +kernel), List.mem_of_getElem? (i := 1154) (by decide +kernel)⟩
theorem lw_p56 : lw_okq (⟨"MatNationsModel", "isSo", "(III)Z"⟩, 18) := ⟨⟨by decide +kernel, by decide +kernel⟩, List.mem_of_getElem? (i := 830) (by decide +kernel), List.mem_of_getElem? (i := 1157) (by decide +kernel), List.mem_of_getElem? (i := 1158) (by decide +kernel)⟩
theorem lw_p57 : lw_okq (⟨"MatNationsModel", "onAll", "(I)I"⟩, 18) := ⟨⟨by decide +kernel, by decide +kernel⟩, List.mem_of_getElem? (i := 830) (by decide +kernel), List.mem_of_getElem? (i := 1178) (by decide +kernel), List.mem_of_getElem? (i := 1179) (by decide +kernel)⟩
theorem lw_p58 : lw_okq (⟨"MatNationsModel", "isOf", "(II)Z"⟩, 18) := ⟨⟨by decide +kernel, by decide +kernel⟩, List.mem_of_getElem? (i := 830) (by decide +kernel), List.mem_of_getElem? (i := 1198) (by decide +kernel), List.mem_of_getElem? (i := 1199) (by decide +kernel)⟩
theorem lw_p59 : lw_okq (⟨"MatNationsModel", "sizeOf", "(I)I"⟩, 18) := ⟨⟨by decide +kernel, by decide +kernel⟩, List.mem_of_getElem? (i := 830) (by decide +kernel), List.mem_of_getElem? (i := 1206) (by decide +kernel), List.mem_of_getElem? (i := 1207) (by decide +kernel)⟩
theorem lw_p60 : lw_okq (⟨"MatNationsModel", "begin", "(I)V"⟩, 18) := ⟨⟨by decide +kernel, by decide +kernel⟩, List.mem_of_getElem? (i := 830) (by decide +kernel), List.mem_of_getElem? (i := 1210) (by decide +kernel), List.mem_of_getElem? (i := 1211) (by decide +kernel)⟩
theorem lw_p61 : lw_okq (⟨"MatNationsModel", "wiperSize", "(I)I"⟩, 18) := ⟨⟨by decide +kernel, by decide +kernel⟩, List.mem_of_getElem? (i := 830) (by decide +kernel), List.mem_of_getElem? (i := 1214) (by decide +kernel), List.mem_of_getElem? (i := 1215) (by decide +kernel)⟩
theorem lw_p62 : lw_okq (⟨"MatNationsModel", "lentSize", "(I)I"⟩, 18) := ⟨⟨by decide +kernel, by decide +kernel⟩, List.mem_of_getElem? (i := 830) (by decide +kernel), List.mem_of_getElem? (i := 1218) (by decide +kernel), List.mem_of_getElem? (i := 1219) (by decide +kernel)⟩
theorem lw_p63 : lw_okq (⟨"MatNationsModel", "mark", "(I)I"⟩, 18) := ⟨⟨by decide +kernel, by decide +kernel⟩, List.mem_of_getElem? (i := 830) (by decide +kernel), List.mem_of_getElem? (i := 1222) (by decide +kernel), List.mem_of_getElem? (i := 1223) (by decide +kernel)⟩
def lw_privs_4 : List (MethodName × Nat) := [(⟨"MatNationsModel", "layTried", "()V"⟩, 18), (⟨"MatNationsModel", "layLine", "(I)V"⟩, 18), (⟨"MatNationsModel", "takeLine", "()V"⟩, 18), (⟨"MatNationsModel", "nextLine", "(I)Z"⟩, 18), (⟨"MatNationsModel", "swapLine", "(II)V"⟩, 18), (⟨"MatNationsModel", "layMats", "()V"⟩, 18), (⟨"MatNationsModel", "comeAll", "(I)I"⟩, 18), (⟨"MatNationsModel", "noItems", "(II)I"⟩, 18), (⟨"MatNationsModel", "isSo", "(III)Z"⟩, 18), (⟨"MatNationsModel", "onAll", "(I)I"⟩, 18), (⟨"MatNationsModel", "isOf", "(II)Z"⟩, 18), (⟨"MatNationsModel", "sizeOf", "(I)I"⟩, 18), (⟨"MatNationsModel", "begin", "(I)V"⟩, 18), (⟨"MatNationsModel", "wiperSize", "(I)I"⟩, 18), (⟨"MatNationsModel", "lentSize", "(I)I"⟩, 18), (⟨"MatNationsModel", "mark", "(I)I"⟩, 18)]
theorem lw_r4 : ∀ q ∈ lw_privs_4, lw_okq q := List.forall_mem_cons.mpr ⟨lw_p48, List.forall_mem_cons.mpr ⟨lw_p49, List.forall_mem_cons.mpr ⟨lw_p50, List.forall_mem_cons.mpr ⟨lw_p51, List.forall_mem_cons.mpr ⟨lw_p52, List.forall_mem_cons.mpr ⟨lw_p53, List.forall_mem_cons.mpr ⟨lw_p54, List.forall_mem_cons.mpr ⟨lw_p55, List.forall_mem_cons.mpr ⟨lw_p56, List.forall_mem_cons.mpr ⟨lw_p57, List.forall_mem_cons.mpr ⟨lw_p58, List.forall_mem_cons.mpr ⟨lw_p59, List.forall_mem_cons.mpr ⟨lw_p60, List.forall_mem_cons.mpr ⟨lw_p61, List.forall_mem_cons.mpr ⟨lw_p62, List.forall_mem_cons.mpr ⟨lw_p63, fun _ h => absurd h List.not_mem_nil⟩⟩⟩⟩⟩⟩⟩⟩⟩⟩⟩⟩⟩⟩⟩⟩
theorem lw_p64 : lw_okq (⟨"MatNationsModel", "wiperMark", "(I)I"⟩, 18) := ⟨⟨by decide +kernel, by decide +kernel⟩, List.mem_of_getElem? (i := 830) (by decide +kernel), List.mem_of_getElem? (i := 1226) (by decide +kernel), List.mem_of_getElem? (i := 1227) (by decide +kernel)⟩
theorem lw_p65 : lw_okq (⟨"MatNationsModel", "lentMark", "(I)I"⟩, 18) := ⟨⟨by decide +kernel, by decide +kernel⟩, List.mem_of_getElem? (i := 830) (by decide +kernel), List.mem_of_getElem? (i := 1230) (by decide +kernel), List.mem_of_getElem? (i := 1231) (by decide +kernel)⟩
theorem lw_p66 : lw_okq (⟨"MatNationsModel", "stamperSize", "(I)I"⟩, 18) := ⟨⟨by decide +kernel, by decide +kernel⟩, List.mem_of_getElem? (i := 830) (by decide +kernel), List.mem_of_getElem? (i := 1234) (by decide +kernel), List.mem_of_getElem? (i := 1235) (by decide +kernel)⟩
theorem lw_p67 : lw_okq (⟨"MatNationsModel", "stamperMark", "(I)I"⟩, 18) := ⟨⟨by decide +kernel, by decide +kernel⟩, List.mem_of_getElem? (i := 830) (by decide +kernel), List.mem_of_getElem? (i := 1238) (by decide +kernel), List.mem_of_getElem? (i := 1239) (by decide +kernel)⟩
theorem lw_p68 : lw_okq (⟨"MatNationsModel", "comings", "()I"⟩, 18) := ⟨⟨by decide +kernel, by decide +kernel⟩, List.mem_of_getElem? (i := 830) (by decide +kernel), List.mem_of_getElem? (i := 1250) (by decide +kernel), List.mem_of_getElem? (i := 1251) (by decide +kernel)⟩
def lw_privs_5 : List (MethodName × Nat) := [(⟨"MatNationsModel", "wiperMark", "(I)I"⟩, 18), (⟨"MatNationsModel", "lentMark", "(I)I"⟩, 18), (⟨"MatNationsModel", "stamperSize", "(I)I"⟩, 18), (⟨"MatNationsModel", "stamperMark", "(I)I"⟩, 18), (⟨"MatNationsModel", "comings", "()I"⟩, 18)]
theorem lw_r5 : ∀ q ∈ lw_privs_5, lw_okq q := List.forall_mem_cons.mpr ⟨lw_p64, List.forall_mem_cons.mpr ⟨lw_p65, List.forall_mem_cons.mpr ⟨lw_p66, List.forall_mem_cons.mpr ⟨lw_p67, List.forall_mem_cons.mpr ⟨lw_p68, fun _ h => absurd h List.not_mem_nil⟩⟩⟩⟩⟩
def lw_privs : List (MethodName × Nat) := lw_privs_1 ++ (lw_privs_2 ++ (lw_privs_3 ++ (lw_privs_4 ++ (lw_privs_5))))
def lw_tbl : List Cond := k2_sels lw_privs ++ tables_1
theorem lw_privs_ok : ∀ q ∈ lw_privs, lw_okq q := by
  show ∀ q ∈ lw_privs_1 ++ (lw_privs_2 ++ (lw_privs_3 ++ (lw_privs_4 ++ (lw_privs_5)))), lw_okq q
  exact List.forall_mem_append.mpr ⟨lw_r1, List.forall_mem_append.mpr ⟨lw_r2, List.forall_mem_append.mpr ⟨lw_r3, List.forall_mem_append.mpr ⟨lw_r4, lw_r5⟩⟩⟩⟩
def RX0 : String := "MatNations$Asks"
def TX0 : u_T := fun k => match k with
  | 0 => ("MatNations$Asks", "begun", "[I", true)
  | _ => ("MatNations$Asks", "size", "I", false)
def tyX0 : Nat → FieldType := fun k => match k with
  | 0 => .array .int
  | _ => .int
abbrev wsX00 : List Cond := u_ws RX0 TX0 2
theorem nmX0 : ∀ a, a < 2 → ∀ b, b < 2 → a ≠ b → (TX0 a).2.1 ≠ (TX0 b).2.1 := by decide +kernel
theorem tyX0_ok : ∀ k, k < 2 → parseFieldDescriptor (TX0 k).2.2.1 = some (tyX0 k) := by decide +kernel
abbrev cX0_init : ByteArray := prog_2_method_1_code
def yX0_init : MethodName := ⟨RX0, "<init>", "()V"⟩
abbrev cX0_answer : ByteArray := prog_2_method_2_code
def yX0_answer : MethodName := ⟨RX0, "answer", "(LMatNations$Comer;II)I"⟩
abbrev cX0_traced : ByteArray := prog_2_method_3_code
def yX0_traced : MethodName := ⟨RX0, "traced", "(I)I"⟩
abbrev cX0_bodyOf : ByteArray := prog_2_method_4_code
def yX0_bodyOf : MethodName := ⟨RX0, "bodyOf", "(LMatNations$Comer;I)I"⟩
abbrev cX0_leaveTrace : ByteArray := prog_2_method_5_code
def yX0_leaveTrace : MethodName := ⟨RX0, "leaveTrace", "(I)V"⟩
abbrev cX0_give : ByteArray := prog_2_method_6_code
def yX0_give : MethodName := ⟨RX0, "give", "(ILMatNations$Comer;II)I"⟩
def RX1 : String := "MatNations$Comer"
def TX1 : u_T := fun k => match k with
  | 0 => ("MatNations$Comer", "sort", "I", false)
  | 1 => ("MatNations$Comer", "soil", "I", false)
  | 2 => ("MatNations$Comer", "from", "I", false)
  | 3 => ("MatNations$Comer", "manners", "I", false)
  | _ => ("MatNations$Comer", "came", "I", false)
def tyX1 : Nat → FieldType := fun k => match k with
  | 0 => .int
  | 1 => .int
  | 2 => .int
  | 3 => .int
  | _ => .int
abbrev wsX10 : List Cond := u_ws RX1 TX1 5
theorem nmX1 : ∀ a, a < 5 → ∀ b, b < 5 → a ≠ b → (TX1 a).2.1 ≠ (TX1 b).2.1 := by decide +kernel
theorem tyX1_ok : ∀ k, k < 5 → parseFieldDescriptor (TX1 k).2.2.1 = some (tyX1 k) := by decide +kernel
abbrev cX1_init : ByteArray := prog_3_method_1_code
def yX1_init : MethodName := ⟨RX1, "<init>", "()V"⟩
abbrev cX1_takeOver : ByteArray := prog_3_method_2_code
def yX1_takeOver : MethodName := ⟨RX1, "takeOver", "(LMatNations$Comer;)V"⟩
abbrev cX1_wipes : ByteArray := prog_3_method_3_code
def yX1_wipes : MethodName := ⟨RX1, "wipes", "(III)I"⟩
abbrev cX1_isOf : ByteArray := prog_3_method_4_code
def yX1_isOf : MethodName := ⟨RX1, "isOf", "(I)Z"⟩
def RX2 : String := "MatNations$Foretold"
def TX2 : u_T := fun k => match k with
  | 0 => ("MatNations$Foretold", "walk", "LMatNations$Walk;", true)
  | 1 => ("MatNations$Foretold", "suspect", "LMatNations$Comer;", true)
  | 2 => ("MatNations$Foretold", "levels", "[I", true)
  | 3 => ("MatNations$Foretold", "tried", "[I", true)
  | 4 => ("MatNations$Foretold", "best", "[I", true)
  | _ => ("MatNations$Foretold", "least", "I", false)
def tyX2 : Nat → FieldType := fun k => match k with
  | 0 => .object "MatNations$Walk"
  | 1 => .object "MatNations$Comer"
  | 2 => .array .int
  | 3 => .array .int
  | 4 => .array .int
  | _ => .int
abbrev wsX20 : List Cond := u_ws RX2 TX2 6
theorem nmX2 : ∀ a, a < 6 → ∀ b, b < 6 → a ≠ b → (TX2 a).2.1 ≠ (TX2 b).2.1 := by decide +kernel
theorem tyX2_ok : ∀ k, k < 6 → parseFieldDescriptor (TX2 k).2.2.1 = some (tyX2 k) := by decide +kernel
abbrev cX2_init : ByteArray := prog_4_method_1_code
def yX2_init : MethodName := ⟨RX2, "<init>", "()V"⟩
abbrev cX2_cleanOnes : ByteArray := prog_4_method_2_code
def yX2_cleanOnes : MethodName := ⟨RX2, "cleanOnes", "(LMatNations$House;)I"⟩
abbrev cX2_told : ByteArray := prog_4_method_3_code
def yX2_told : MethodName := ⟨RX2, "told", "(II)I"⟩
abbrev cX2_seekOrder : ByteArray := prog_4_method_4_code
def yX2_seekOrder : MethodName := ⟨RX2, "seekOrder", "(LMatNations$House;)V"⟩
abbrev cX2_tryOrders : ByteArray := prog_4_method_5_code
def yX2_tryOrders : MethodName := ⟨RX2, "tryOrders", "(LMatNations$House;III)V"⟩
abbrev cX2_seekLaying : ByteArray := prog_4_method_6_code
def yX2_seekLaying : MethodName := ⟨RX2, "seekLaying", "(LMatNations$House;)V"⟩
abbrev cX2_tryLayings : ByteArray := prog_4_method_7_code
def yX2_tryLayings : MethodName := ⟨RX2, "tryLayings", "(LMatNations$House;II)V"⟩
abbrev cX2_keepTried : ByteArray := prog_4_method_8_code
def yX2_keepTried : MethodName := ⟨RX2, "keepTried", "(II)V"⟩
abbrev cX2_fewestBeaten : ByteArray := prog_4_method_9_code
def yX2_fewestBeaten : MethodName := ⟨RX2, "fewestBeaten", "(LMatNations$House;II)I"⟩
abbrev cX2_carriedIfBeaten : ByteArray := prog_4_method_10_code
def yX2_carriedIfBeaten : MethodName := ⟨RX2, "carriedIfBeaten", "(LMatNations$House;II)I"⟩
abbrev cX2_uniters : ByteArray := prog_4_method_11_code
def yX2_uniters : MethodName := ⟨RX2, "uniters", "(LMatNations$House;II)I"⟩
abbrev cX2_bindsTo : ByteArray := prog_4_method_12_code
def yX2_bindsTo : MethodName := ⟨RX2, "bindsTo", "(LMatNations$House;III)Z"⟩
abbrev cX2_culprits : ByteArray := prog_4_method_13_code
def yX2_culprits : MethodName := ⟨RX2, "culprits", "(LMatNations$House;LMatNations$Rows;II)I"⟩
abbrev cX2_tryAs : ByteArray := prog_4_method_14_code
def yX2_tryAs : MethodName := ⟨RX2, "tryAs", "(LMatNations$Comer;)V"⟩
abbrev cX2_fitting : ByteArray := prog_4_method_15_code
def yX2_fitting : MethodName := ⟨RX2, "fitting", "(LMatNations$House;ILMatNations$Rows;II)I"⟩
abbrev cX2_giveTrait : ByteArray := prog_4_method_16_code
def yX2_giveTrait : MethodName := ⟨RX2, "giveTrait", "(II)V"⟩
abbrev cX2_isSoBehind : ByteArray := prog_4_method_17_code
def yX2_isSoBehind : MethodName := ⟨RX2, "isSoBehind", "(LMatNations$House;LMatNations$Comer;LMatNations$Rows;II)Z"⟩
abbrev cX2_likelihood : ByteArray := prog_4_method_18_code
def yX2_likelihood : MethodName := ⟨RX2, "likelihood", "(LMatNations$House;IIZ)I"⟩
abbrev cX2_weight : ByteArray := prog_4_method_19_code
def yX2_weight : MethodName := ⟨RX2, "weight", "(LMatNations$House;II)I"⟩
abbrev cX2_commonDivisor : ByteArray := prog_4_method_20_code
def yX2_commonDivisor : MethodName := ⟨RX2, "commonDivisor", "(II)I"⟩
abbrev cX2_years : ByteArray := prog_4_method_21_code
def yX2_years : MethodName := ⟨RX2, "years", "(LMatNations$House;IIZ)I"⟩
def RX3 : String := "MatNations$History"
def TX3 : u_T := fun k => match k with
  | 0 => ("MatNations$History", "cells", "[I", true)
  | 1 => ("MatNations$History", "next", "I", false)
  | _ => ("MatNations$History", "size", "I", false)
def tyX3 : Nat → FieldType := fun k => match k with
  | 0 => .array .int
  | 1 => .int
  | _ => .int
abbrev wsX30 : List Cond := u_ws RX3 TX3 3
theorem nmX3 : ∀ a, a < 3 → ∀ b, b < 3 → a ≠ b → (TX3 a).2.1 ≠ (TX3 b).2.1 := by decide +kernel
theorem tyX3_ok : ∀ k, k < 3 → parseFieldDescriptor (TX3 k).2.2.1 = some (tyX3 k) := by decide +kernel
abbrev cX3_init : ByteArray := prog_5_method_1_code
def yX3_init : MethodName := ⟨RX3, "<init>", "()V"⟩
abbrev cX3_isEmpty : ByteArray := prog_5_method_2_code
def yX3_isEmpty : MethodName := ⟨RX3, "isEmpty", "()Z"⟩
abbrev cX3_size : ByteArray := prog_5_method_3_code
def yX3_size : MethodName := ⟨RX3, "size", "()I"⟩
abbrev cX3_forget : ByteArray := prog_5_method_4_code
def yX3_forget : MethodName := ⟨RX3, "forget", "()V"⟩
abbrev cX3_keep : ByteArray := prog_5_method_5_code
def yX3_keep : MethodName := ⟨RX3, "keep", "(LMatNations$House;)V"⟩
abbrev cX3_takeBack : ByteArray := prog_5_method_6_code
def yX3_takeBack : MethodName := ⟨RX3, "takeBack", "(LMatNations$House;)I"⟩
def RX4 : String := "MatNations$House"
def TX4 : u_T := fun k => match k with
  | 0 => ("MatNations$House", "limit", "I", false)
  | 1 => ("MatNations$House", "bond", "I", false)
  | 2 => ("MatNations$House", "matCount", "I", false)
  | 3 => ("MatNations$House", "comerCount", "I", false)
  | 4 => ("MatNations$House", "mats", "[LMatNations$Mat;", true)
  | _ => ("MatNations$House", "comers", "[LMatNations$Comer;", true)
def tyX4 : Nat → FieldType := fun k => match k with
  | 0 => .int
  | 1 => .int
  | 2 => .int
  | 3 => .int
  | 4 => .array (.object "MatNations$Mat")
  | _ => .array (.object "MatNations$Comer")
abbrev wsX40 : List Cond := u_ws RX4 TX4 6
theorem nmX4 : ∀ a, a < 6 → ∀ b, b < 6 → a ≠ b → (TX4 a).2.1 ≠ (TX4 b).2.1 := by decide +kernel
theorem tyX4_ok : ∀ k, k < 6 → parseFieldDescriptor (TX4 k).2.2.1 = some (tyX4 k) := by decide +kernel
abbrev cX4_init : ByteArray := prog_6_method_1_code
def yX4_init : MethodName := ⟨RX4, "<init>", "()V"⟩
abbrev cX4_clear : ByteArray := prog_6_method_2_code
def yX4_clear : MethodName := ⟨RX4, "clear", "()V"⟩
abbrev cX4_takeOver : ByteArray := prog_6_method_3_code
def yX4_takeOver : MethodName := ⟨RX4, "takeOver", "(LMatNations$House;)V"⟩
abbrev cX4_writeCells : ByteArray := prog_6_method_4_code
def yX4_writeCells : MethodName := ⟨RX4, "writeCells", "([II)V"⟩
abbrev cX4_readCells : ByteArray := prog_6_method_5_code
def yX4_readCells : MethodName := ⟨RX4, "readCells", "([II)V"⟩
abbrev cX4_allComers : ByteArray := prog_6_method_6_code
def yX4_allComers : MethodName := ⟨RX4, "allComers", "()I"⟩
abbrev cX4_receive : ByteArray := prog_6_method_7_code
def yX4_receive : MethodName := ⟨RX4, "receive", "(LMatNations$Comer;LMatNations$Walk;)I"⟩
abbrev cX4_swapWithNext : ByteArray := prog_6_method_8_code
def yX4_swapWithNext : MethodName := ⟨RX4, "swapWithNext", "(I)V"⟩
abbrev cX4_rainOnAll : ByteArray := prog_6_method_9_code
def yX4_rainOnAll : MethodName := ⟨RX4, "rainOnAll", "(I)I"⟩
abbrev cX4_areAtOne : ByteArray := prog_6_method_10_code
def yX4_areAtOne : MethodName := ⟨RX4, "areAtOne", "(II)Z"⟩
abbrev cX4_pactCount : ByteArray := prog_6_method_11_code
def yX4_pactCount : MethodName := ⟨RX4, "pactCount", "()I"⟩
abbrev cX4_firstPact : ByteArray := prog_6_method_12_code
def yX4_firstPact : MethodName := ⟨RX4, "firstPact", "()I"⟩
abbrev cX4_lyingInAll : ByteArray := prog_6_method_13_code
def yX4_lyingInAll : MethodName := ⟨RX4, "lyingInAll", "()I"⟩
abbrev cX4_comings : ByteArray := prog_6_method_14_code
def yX4_comings : MethodName := ⟨RX4, "comings", "()I"⟩
def RX5 : String := "MatNations$Mat"
def TX5 : u_T := fun k => match k with
  | 0 => ("MatNations$Mat", "country", "I", false)
  | _ => ("MatNations$Mat", "soil", "[I", true)
def tyX5 : Nat → FieldType := fun k => match k with
  | 0 => .int
  | _ => .array .int
abbrev wsX50 : List Cond := u_ws RX5 TX5 2
theorem nmX5 : ∀ a, a < 2 → ∀ b, b < 2 → a ≠ b → (TX5 a).2.1 ≠ (TX5 b).2.1 := by decide +kernel
theorem tyX5_ok : ∀ k, k < 2 → parseFieldDescriptor (TX5 k).2.2.1 = some (tyX5 k) := by decide +kernel
abbrev cX5_init : ByteArray := prog_7_method_1_code
def yX5_init : MethodName := ⟨RX5, "<init>", "()V"⟩
abbrev cX5_lying : ByteArray := prog_7_method_2_code
def yX5_lying : MethodName := ⟨RX5, "lying", "()I"⟩
abbrev cX5_master : ByteArray := prog_7_method_3_code
def yX5_master : MethodName := ⟨RX5, "master", "()I"⟩
abbrev cX5_empty : ByteArray := prog_7_method_4_code
def yX5_empty : MethodName := ⟨RX5, "empty", "()V"⟩
abbrev cX5_takeOver : ByteArray := prog_7_method_5_code
def yX5_takeOver : MethodName := ⟨RX5, "takeOver", "(LMatNations$Mat;)V"⟩
def RX6 : String := "MatNations$Reader"
def TX6 : u_T := fun k => match k with
  | 0 => ("MatNations$Reader", "bytes", "[I", true)
  | 1 => ("MatNations$Reader", "length", "I", false)
  | 2 => ("MatNations$Reader", "at", "I", false)
  | _ => ("MatNations$Reader", "wrong", "I", false)
def tyX6 : Nat → FieldType := fun k => match k with
  | 0 => .array .int
  | 1 => .int
  | 2 => .int
  | _ => .int
abbrev wsX60 : List Cond := u_ws RX6 TX6 4
theorem nmX6 : ∀ a, a < 4 → ∀ b, b < 4 → a ≠ b → (TX6 a).2.1 ≠ (TX6 b).2.1 := by decide +kernel
theorem tyX6_ok : ∀ k, k < 4 → parseFieldDescriptor (TX6 k).2.2.1 = some (tyX6 k) := by decide +kernel
abbrev cX6_init : ByteArray := prog_8_method_1_code
def yX6_init : MethodName := ⟨RX6, "<init>", "()V"⟩
abbrev cX6_isFull : ByteArray := prog_8_method_2_code
def yX6_isFull : MethodName := ⟨RX6, "isFull", "()Z"⟩
abbrev cX6_size : ByteArray := prog_8_method_3_code
def yX6_size : MethodName := ⟨RX6, "size", "()I"⟩
abbrev cX6_append : ByteArray := prog_8_method_4_code
def yX6_append : MethodName := ⟨RX6, "append", "(I)I"⟩
abbrev cX6_place : ByteArray := prog_8_method_5_code
def yX6_place : MethodName := ⟨RX6, "place", "()I"⟩
abbrev cX6_readInto : ByteArray := prog_8_method_6_code
def yX6_readInto : MethodName := ⟨RX6, "readInto", "(LMatNations$House;)I"⟩
abbrev cX6_readLaw : ByteArray := prog_8_method_7_code
def yX6_readLaw : MethodName := ⟨RX6, "readLaw", "(LMatNations$House;)Z"⟩
abbrev cX6_readMats : ByteArray := prog_8_method_8_code
def yX6_readMats : MethodName := ⟨RX6, "readMats", "(LMatNations$House;)Z"⟩
abbrev cX6_readComers : ByteArray := prog_8_method_9_code
def yX6_readComers : MethodName := ⟨RX6, "readComers", "(LMatNations$House;)Z"⟩
abbrev cX6_readTraits : ByteArray := prog_8_method_10_code
def yX6_readTraits : MethodName := ⟨RX6, "readTraits", "(LMatNations$Comer;)Z"⟩
abbrev cX6_sortOf : ByteArray := prog_8_method_11_code
def yX6_sortOf : MethodName := ⟨RX6, "sortOf", "(I)I"⟩
abbrev cX6_seen : ByteArray := prog_8_method_12_code
def yX6_seen : MethodName := ⟨RX6, "seen", "()I"⟩
abbrev cX6_refuse : ByteArray := prog_8_method_13_code
def yX6_refuse : MethodName := ⟨RX6, "refuse", "(I)Z"⟩
abbrev cX6_takeByte : ByteArray := prog_8_method_14_code
def yX6_takeByte : MethodName := ⟨RX6, "takeByte", "(I)Z"⟩
abbrev cX6_takeNumber : ByteArray := prog_8_method_15_code
def yX6_takeNumber : MethodName := ⟨RX6, "takeNumber", "(II)I"⟩
abbrev cX6_isFigure : ByteArray := prog_8_method_16_code
def yX6_isFigure : MethodName := ⟨RX6, "isFigure", "(I)Z"⟩
def RX7 : String := "MatNations$Rows"
def TX7 : u_T := fun k => match k with
  | 0 => ("MatNations$Rows", "items", "[I", true)
  | 1 => ("MatNations$Rows", "lanes", "[I", true)
  | _ => ("MatNations$Rows", "sizes", "[I", true)
def tyX7 : Nat → FieldType := fun k => match k with
  | 0 => .array .int
  | 1 => .array .int
  | _ => .array .int
abbrev wsX70 : List Cond := u_ws RX7 TX7 3
theorem nmX7 : ∀ a, a < 3 → ∀ b, b < 3 → a ≠ b → (TX7 a).2.1 ≠ (TX7 b).2.1 := by decide +kernel
theorem tyX7_ok : ∀ k, k < 3 → parseFieldDescriptor (TX7 k).2.2.1 = some (tyX7 k) := by decide +kernel
abbrev cX7_init : ByteArray := prog_9_method_1_code
def yX7_init : MethodName := ⟨RX7, "<init>", "()V"⟩
abbrev cX7_isMissing : ByteArray := prog_9_method_2_code
def yX7_isMissing : MethodName := ⟨RX7, "isMissing", "(I)Z"⟩
abbrev cX7_sameLane : ByteArray := prog_9_method_3_code
def yX7_sameLane : MethodName := ⟨RX7, "sameLane", "(II)Z"⟩
abbrev cX7_reaches : ByteArray := prog_9_method_4_code
def yX7_reaches : MethodName := ⟨RX7, "reaches", "(III)Z"⟩
abbrev cX7_item : ByteArray := prog_9_method_5_code
def yX7_item : MethodName := ⟨RX7, "item", "(II)I"⟩
abbrev cX7_make : ByteArray := prog_9_method_6_code
def yX7_make : MethodName := ⟨RX7, "make", "(III)V"⟩
abbrev cX7_put : ByteArray := prog_9_method_7_code
def yX7_put : MethodName := ⟨RX7, "put", "(III)I"⟩
abbrev cX7_carryOver : ByteArray := prog_9_method_8_code
def yX7_carryOver : MethodName := ⟨RX7, "carryOver", "(IIIII)V"⟩
abbrev cX7_remove : ByteArray := prog_9_method_9_code
def yX7_remove : MethodName := ⟨RX7, "remove", "(I)I"⟩
abbrev cX7_present : ByteArray := prog_9_method_10_code
def yX7_present : MethodName := ⟨RX7, "present", "()I"⟩
def RX8 : String := "MatNations$Walk"
def TX8 : u_T := fun k => match k with
  | 0 => ("MatNations$Walk", "laid", "[I", true)
  | 1 => ("MatNations$Walk", "lying", "[I", true)
  | _ => ("MatNations$Walk", "left", "[I", true)
def tyX8 : Nat → FieldType := fun k => match k with
  | 0 => .array .int
  | 1 => .array .int
  | _ => .array .int
abbrev wsX80 : List Cond := u_ws RX8 TX8 3
theorem nmX8 : ∀ a, a < 3 → ∀ b, b < 3 → a ≠ b → (TX8 a).2.1 ≠ (TX8 b).2.1 := by decide +kernel
theorem tyX8_ok : ∀ k, k < 3 → parseFieldDescriptor (TX8 k).2.2.1 = some (tyX8 k) := by decide +kernel
abbrev cX8_init : ByteArray := prog_10_method_1_code
def yX8_init : MethodName := ⟨RX8, "<init>", "()V"⟩
abbrev cX8_begin : ByteArray := prog_10_method_2_code
def yX8_begin : MethodName := ⟨RX8, "begin", "(LMatNations$House;)V"⟩
abbrev cX8_goOver : ByteArray := prog_10_method_3_code
def yX8_goOver : MethodName := ⟨RX8, "goOver", "(LMatNations$House;LMatNations$Comer;)I"⟩
abbrev cX8_allGoOver : ByteArray := prog_10_method_4_code
def yX8_allGoOver : MethodName := ⟨RX8, "allGoOver", "(LMatNations$House;I)I"⟩
abbrev cX8_lyingInAll : ByteArray := prog_10_method_5_code
def yX8_lyingInAll : MethodName := ⟨RX8, "lyingInAll", "(LMatNations$House;)I"⟩
def RX9 : String := "MatNations"
def TX9 : u_T := fun k => match k with
  | 0 => ("MatNations", "rows", "LMatNations$Rows;", true)
  | 1 => ("MatNations", "reader", "LMatNations$Reader;", true)
  | 2 => ("MatNations", "house", "LMatNations$House;", true)
  | 3 => ("MatNations", "draft", "LMatNations$House;", true)
  | 4 => ("MatNations", "images", "[LMatNations$House;", true)
  | 5 => ("MatNations", "kept", "[Z", true)
  | 6 => ("MatNations", "history", "LMatNations$History;", true)
  | 7 => ("MatNations", "walk", "LMatNations$Walk;", true)
  | 8 => ("MatNations", "foretold", "LMatNations$Foretold;", true)
  | 9 => ("MatNations", "asks", "LMatNations$Asks;", true)
  | 10 => ("MatNations", "latestFault", "I", false)
  | _ => ("MatNations", "latestFinding", "I", false)
def tyX9 : Nat → FieldType := fun k => match k with
  | 0 => .object "MatNations$Rows"
  | 1 => .object "MatNations$Reader"
  | 2 => .object "MatNations$House"
  | 3 => .object "MatNations$House"
  | 4 => .array (.object "MatNations$House")
  | 5 => .array .boolean
  | 6 => .object "MatNations$History"
  | 7 => .object "MatNations$Walk"
  | 8 => .object "MatNations$Foretold"
  | 9 => .object "MatNations$Asks"
  | 10 => .int
  | _ => .int
abbrev wsX90 : List Cond := u_ws RX9 TX9 12
theorem nmX9 : ∀ a, a < 12 → ∀ b, b < 12 → a ≠ b → (TX9 a).2.1 ≠ (TX9 b).2.1 := by decide +kernel
theorem tyX9_ok : ∀ k, k < 12 → parseFieldDescriptor (TX9 k).2.2.1 = some (tyX9 k) := by decide +kernel
abbrev cX9_init : ByteArray := prog_1_method_1_code
def yX9_init : MethodName := ⟨RX9, "<init>", "()V"⟩
abbrev cX9_row : ByteArray := prog_1_method_2_code
def yX9_row : MethodName := ⟨RX9, "row", "(III)I"⟩
abbrev cX9_set : ByteArray := prog_1_method_3_code
def yX9_set : MethodName := ⟨RX9, "set", "(III)I"⟩
abbrev cX9_copy : ByteArray := prog_1_method_4_code
def yX9_copy : MethodName := ⟨RX9, "copy", "(IIIII)I"⟩
abbrev cX9_drop : ByteArray := prog_1_method_5_code
def yX9_drop : MethodName := ⟨RX9, "drop", "(I)I"⟩
abbrev cX9_feed : ByteArray := prog_1_method_6_code
def yX9_feed : MethodName := ⟨RX9, "feed", "(I)I"⟩
abbrev cX9_hotel : ByteArray := prog_1_method_7_code
def yX9_hotel : MethodName := ⟨RX9, "hotel", "()I"⟩
abbrev cX9_fault : ByteArray := prog_1_method_8_code
def yX9_fault : MethodName := ⟨RX9, "fault", "()I"⟩
abbrev cX9_come : ByteArray := prog_1_method_9_code
def yX9_come : MethodName := ⟨RX9, "come", "(I)I"⟩
abbrev cX9_beat : ByteArray := prog_1_method_10_code
def yX9_beat : MethodName := ⟨RX9, "beat", "(I)I"⟩
abbrev cX9_change : ByteArray := prog_1_method_11_code
def yX9_change : MethodName := ⟨RX9, "change", "(I)I"⟩
abbrev cX9_rain : ByteArray := prog_1_method_12_code
def yX9_rain : MethodName := ⟨RX9, "rain", "(I)I"⟩
abbrev cX9_undo : ByteArray := prog_1_method_13_code
def yX9_undo : MethodName := ⟨RX9, "undo", "()I"⟩
abbrev cX9_comer : ByteArray := prog_1_method_14_code
def yX9_comer : MethodName := ⟨RX9, "comer", "(II)I"⟩
abbrev cX9_mat : ByteArray := prog_1_method_15_code
def yX9_mat : MethodName := ⟨RX9, "mat", "(II)I"⟩
abbrev cX9_soil : ByteArray := prog_1_method_16_code
def yX9_soil : MethodName := ⟨RX9, "soil", "(II)I"⟩
abbrev cX9_atOne : ByteArray := prog_1_method_17_code
def yX9_atOne : MethodName := ⟨RX9, "atOne", "(II)I"⟩
abbrev cX9_leaves : ByteArray := prog_1_method_18_code
def yX9_leaves : MethodName := ⟨RX9, "leaves", "(II)I"⟩
abbrev cX9_carries : ByteArray := prog_1_method_19_code
def yX9_carries : MethodName := ⟨RX9, "carries", "(I)I"⟩
abbrev cX9_clean : ByteArray := prog_1_method_20_code
def yX9_clean : MethodName := ⟨RX9, "clean", "()I"⟩
abbrev cX9_order : ByteArray := prog_1_method_21_code
def yX9_order : MethodName := ⟨RX9, "order", "(I)I"⟩
abbrev cX9_laying : ByteArray := prog_1_method_22_code
def yX9_laying : MethodName := ⟨RX9, "laying", "(I)I"⟩
abbrev cX9_beating : ByteArray := prog_1_method_23_code
def yX9_beating : MethodName := ⟨RX9, "beating", "(III)I"⟩
abbrev cX9_pacts : ByteArray := prog_1_method_24_code
def yX9_pacts : MethodName := ⟨RX9, "pacts", "(I)I"⟩
abbrev cX9_could : ByteArray := prog_1_method_25_code
def yX9_could : MethodName := ⟨RX9, "could", "(II)I"⟩
abbrev cX9_who : ByteArray := prog_1_method_26_code
def yX9_who : MethodName := ⟨RX9, "who", "(II)I"⟩
abbrev cX9_fits : ByteArray := prog_1_method_27_code
def yX9_fits : MethodName := ⟨RX9, "fits", "(IIII)I"⟩
abbrev cX9_absent : ByteArray := prog_1_method_28_code
def yX9_absent : MethodName := ⟨RX9, "absent", "(III)I"⟩
abbrev cX9_drawn : ByteArray := prog_1_method_29_code
def yX9_drawn : MethodName := ⟨RX9, "drawn", "(III)I"⟩
abbrev cX9_image : ByteArray := prog_1_method_30_code
def yX9_image : MethodName := ⟨RX9, "image", "(I)I"⟩
abbrev cX9_restore : ByteArray := prog_1_method_31_code
def yX9_restore : MethodName := ⟨RX9, "restore", "(I)I"⟩
abbrev cX9_kind : ByteArray := prog_1_method_32_code
def yX9_kind : MethodName := ⟨RX9, "kind", "(I)I"⟩
abbrev cX9_as : ByteArray := prog_1_method_33_code
def yX9_as : MethodName := ⟨RX9, "as", "(II)I"⟩
abbrev cX9_ask : ByteArray := prog_1_method_34_code
def yX9_ask : MethodName := ⟨RX9, "ask", "(II)I"⟩
abbrev cX9_trace : ByteArray := prog_1_method_35_code
def yX9_trace : MethodName := ⟨RX9, "trace", "(I)I"⟩
abbrev cX9_count : ByteArray := prog_1_method_36_code
def yX9_count : MethodName := ⟨RX9, "count", "(I)I"⟩
abbrev cX9_status : ByteArray := prog_1_method_37_code
def yX9_status : MethodName := ⟨RX9, "status", "()I"⟩
abbrev cX9_noRow : ByteArray := prog_1_method_38_code
def yX9_noRow : MethodName := ⟨RX9, "noRow", "(I)Z"⟩
abbrev cX9_noImage : ByteArray := prog_1_method_39_code
def yX9_noImage : MethodName := ⟨RX9, "noImage", "(I)Z"⟩
abbrev cX9_noCarried : ByteArray := prog_1_method_40_code
def yX9_noCarried : MethodName := ⟨RX9, "noCarried", "(I)Z"⟩
abbrev cX9_neither : ByteArray := prog_1_method_41_code
def yX9_neither : MethodName := ⟨RX9, "neither", "(I)Z"⟩
abbrev cX9_noHotel : ByteArray := prog_1_method_42_code
def yX9_noHotel : MethodName := ⟨RX9, "noHotel", "()Z"⟩
abbrev cX9_noComer : ByteArray := prog_1_method_43_code
def yX9_noComer : MethodName := ⟨RX9, "noComer", "(I)Z"⟩
abbrev cX9_noMat : ByteArray := prog_1_method_44_code
def yX9_noMat : MethodName := ⟨RX9, "noMat", "(I)Z"⟩
abbrev cX9_found : ByteArray := prog_1_method_45_code
def yX9_found : MethodName := ⟨RX9, "found", "(I)I"⟩
abbrev cX9_unfound : ByteArray := prog_1_method_46_code
def yX9_unfound : MethodName := ⟨RX9, "unfound", "(I)I"⟩
abbrev cX9_matRowFinding : ByteArray := prog_1_method_47_code
def yX9_matRowFinding : MethodName := ⟨RX9, "matRowFinding", "(II)I"⟩
def RX10 : String := "MatNationsModel"
def TX10 : u_T := fun k => match k with
  | 0 => ("MatNationsModel", "row", "[I", true)
  | 1 => ("MatNationsModel", "isHotel", "Z", false)
  | 2 => ("MatNationsModel", "undos", "I", false)
  | 3 => ("MatNationsModel", "isKept", "[Z", true)
  | 4 => ("MatNationsModel", "lanes", "[I", true)
  | 5 => ("MatNationsModel", "sizes", "[I", true)
  | 6 => ("MatNationsModel", "items", "[I", true)
  | 7 => ("MatNationsModel", "tape", "[I", true)
  | 8 => ("MatNationsModel", "length", "I", false)
  | 9 => ("MatNationsModel", "fault", "I", false)
  | 10 => ("MatNationsModel", "status", "I", false)
  | 11 => ("MatNationsModel", "trace", "[I", true)
  | 12 => ("MatNationsModel", "traced", "I", false)
  | 13 => ("MatNationsModel", "at", "I", false)
  | 14 => ("MatNationsModel", "wrong", "I", false)
  | 15 => ("MatNationsModel", "number", "I", false)
  | 16 => ("MatNationsModel", "line", "[I", true)
  | _ => ("MatNationsModel", "bestLine", "[I", true)
def tyX10 : Nat → FieldType := fun k => match k with
  | 0 => .array .int
  | 1 => .boolean
  | 2 => .int
  | 3 => .array .boolean
  | 4 => .array .int
  | 5 => .array .int
  | 6 => .array .int
  | 7 => .array .int
  | 8 => .int
  | 9 => .int
  | 10 => .int
  | 11 => .array .int
  | 12 => .int
  | 13 => .int
  | 14 => .int
  | 15 => .int
  | 16 => .array .int
  | _ => .array .int
abbrev wsX100 : List Cond := u_ws RX10 TX10 18
theorem nmX10 : ∀ a, a < 18 → ∀ b, b < 18 → a ≠ b → (TX10 a).2.1 ≠ (TX10 b).2.1 := by decide +kernel
theorem tyX10_ok : ∀ k, k < 18 → parseFieldDescriptor (TX10 k).2.2.1 = some (tyX10 k) := by decide +kernel
abbrev cX10_init : ByteArray := prog_12_method_1_code
def yX10_init : MethodName := ⟨RX10, "<init>", "()V"⟩
abbrev cX10_in : ByteArray := prog_12_method_2_code
def yX10_in : MethodName := ⟨RX10, "in", "(JJJ)Z"⟩
abbrev cX10_has : ByteArray := prog_12_method_3_code
def yX10_has : MethodName := ⟨RX10, "has", "(II)Z"⟩
abbrev cX10_bits : ByteArray := prog_12_method_4_code
def yX10_bits : MethodName := ⟨RX10, "bits", "(I)I"⟩
abbrev cX10_find : ByteArray := prog_12_method_5_code
def yX10_find : MethodName := ⟨RX10, "find", "(I)I"⟩
abbrev cX10_well : ByteArray := prog_12_method_6_code
def yX10_well : MethodName := ⟨RX10, "well", "(I)I"⟩
abbrev cX10_isRow : ByteArray := prog_12_method_7_code
def yX10_isRow : MethodName := ⟨RX10, "isRow", "(I)Z"⟩
abbrev cX10_row : ByteArray := prog_12_method_8_code
def yX10_row : MethodName := ⟨RX10, "row", "(III)I"⟩
abbrev cX10_narrow : ByteArray := prog_12_method_9_code
def yX10_narrow : MethodName := ⟨RX10, "narrow", "(II)I"⟩
abbrev cX10_set : ByteArray := prog_12_method_10_code
def yX10_set : MethodName := ⟨RX10, "set", "(III)I"⟩
abbrev cX10_isSpan : ByteArray := prog_12_method_11_code
def yX10_isSpan : MethodName := ⟨RX10, "isSpan", "(III)Z"⟩
abbrev cX10_copy : ByteArray := prog_12_method_12_code
def yX10_copy : MethodName := ⟨RX10, "copy", "(IIIII)I"⟩
abbrev cX10_drop : ByteArray := prog_12_method_13_code
def yX10_drop : MethodName := ⟨RX10, "drop", "(I)I"⟩
abbrev cX10_feed : ByteArray := prog_12_method_14_code
def yX10_feed : MethodName := ⟨RX10, "feed", "(I)I"⟩
abbrev cX10_isLetter : ByteArray := prog_12_method_15_code
def yX10_isLetter : MethodName := ⟨RX10, "isLetter", "(I)Z"⟩
abbrev cX10_isFigure : ByteArray := prog_12_method_16_code
def yX10_isFigure : MethodName := ⟨RX10, "isFigure", "(I)Z"⟩
abbrev cX10_refuse : ByteArray := prog_12_method_17_code
def yX10_refuse : MethodName := ⟨RX10, "refuse", "(I)Z"⟩
abbrev cX10_sign : ByteArray := prog_12_method_18_code
def yX10_sign : MethodName := ⟨RX10, "sign", "(I)Z"⟩
abbrev cX10_readsNumber : ByteArray := prog_12_method_19_code
def yX10_readsNumber : MethodName := ⟨RX10, "readsNumber", "(II)Z"⟩
abbrev cX10_readsLaw : ByteArray := prog_12_method_20_code
def yX10_readsLaw : MethodName := ⟨RX10, "readsLaw", "()Z"⟩
abbrev cX10_readsMat : ByteArray := prog_12_method_21_code
def yX10_readsMat : MethodName := ⟨RX10, "readsMat", "()Z"⟩
abbrev cX10_kindOfLetter : ByteArray := prog_12_method_22_code
def yX10_kindOfLetter : MethodName := ⟨RX10, "kindOfLetter", "(I)I"⟩
abbrev cX10_readsComer : ByteArray := prog_12_method_23_code
def yX10_readsComer : MethodName := ⟨RX10, "readsComer", "()Z"⟩
abbrev cX10_isSort : ByteArray := prog_12_method_24_code
def yX10_isSort : MethodName := ⟨RX10, "isSort", "()Z"⟩
abbrev cX10_reads : ByteArray := prog_12_method_25_code
def yX10_reads : MethodName := ⟨RX10, "reads", "()Z"⟩
abbrev cX10_hotel : ByteArray := prog_12_method_26_code
def yX10_hotel : MethodName := ⟨RX10, "hotel", "()I"⟩
abbrev cX10_fault : ByteArray := prog_12_method_27_code
def yX10_fault : MethodName := ⟨RX10, "fault", "()I"⟩
abbrev cX10_copyTown : ByteArray := prog_12_method_28_code
def yX10_copyTown : MethodName := ⟨RX10, "copyTown", "(II)V"⟩
abbrev cX10_keepPast : ByteArray := prog_12_method_29_code
def yX10_keepPast : MethodName := ⟨RX10, "keepPast", "()V"⟩
abbrev cX10_undo : ByteArray := prog_12_method_30_code
def yX10_undo : MethodName := ⟨RX10, "undo", "()I"⟩
abbrev cX10_isComer : ByteArray := prog_12_method_31_code
def yX10_isComer : MethodName := ⟨RX10, "isComer", "(I)Z"⟩
abbrev cX10_isMat : ByteArray := prog_12_method_32_code
def yX10_isMat : MethodName := ⟨RX10, "isMat", "(I)Z"⟩
abbrev cX10_liesOn : ByteArray := prog_12_method_33_code
def yX10_liesOn : MethodName := ⟨RX10, "liesOn", "(II)I"⟩
abbrev cX10_onAll : ByteArray := prog_12_method_34_code
def yX10_onAll : MethodName := ⟨RX10, "onAll", "(I)I"⟩
abbrev cX10_leavesOn : ByteArray := prog_12_method_35_code
def yX10_leavesOn : MethodName := ⟨RX10, "leavesOn", "(IIII)I"⟩
abbrev cX10_comesAt : ByteArray := prog_12_method_36_code
def yX10_comesAt : MethodName := ⟨RX10, "comesAt", "(II)I"⟩
abbrev cX10_beatsAt : ByteArray := prog_12_method_37_code
def yX10_beatsAt : MethodName := ⟨RX10, "beatsAt", "(II)I"⟩
abbrev cX10_areAtOne : ByteArray := prog_12_method_38_code
def yX10_areAtOne : MethodName := ⟨RX10, "areAtOne", "(III)Z"⟩
abbrev cX10_come : ByteArray := prog_12_method_39_code
def yX10_come : MethodName := ⟨RX10, "come", "(I)I"⟩
abbrev cX10_beat : ByteArray := prog_12_method_40_code
def yX10_beat : MethodName := ⟨RX10, "beat", "(I)I"⟩
abbrev cX10_swapPlaces : ByteArray := prog_12_method_41_code
def yX10_swapPlaces : MethodName := ⟨RX10, "swapPlaces", "(II)V"⟩
abbrev cX10_change : ByteArray := prog_12_method_42_code
def yX10_change : MethodName := ⟨RX10, "change", "(I)I"⟩
abbrev cX10_rain : ByteArray := prog_12_method_43_code
def yX10_rain : MethodName := ⟨RX10, "rain", "(I)I"⟩
abbrev cX10_comer : ByteArray := prog_12_method_44_code
def yX10_comer : MethodName := ⟨RX10, "comer", "(II)I"⟩
abbrev cX10_masterOf : ByteArray := prog_12_method_45_code
def yX10_masterOf : MethodName := ⟨RX10, "masterOf", "(I)I"⟩
abbrev cX10_mat : ByteArray := prog_12_method_46_code
def yX10_mat : MethodName := ⟨RX10, "mat", "(II)I"⟩
abbrev cX10_soil : ByteArray := prog_12_method_47_code
def yX10_soil : MethodName := ⟨RX10, "soil", "(II)I"⟩
abbrev cX10_atOne : ByteArray := prog_12_method_48_code
def yX10_atOne : MethodName := ⟨RX10, "atOne", "(II)I"⟩
abbrev cX10_layTried : ByteArray := prog_12_method_49_code
def yX10_layTried : MethodName := ⟨RX10, "layTried", "()V"⟩
abbrev cX10_carriesIf : ByteArray := prog_12_method_50_code
def yX10_carriesIf : MethodName := ⟨RX10, "carriesIf", "(I)I"⟩
abbrev cX10_leaves : ByteArray := prog_12_method_51_code
def yX10_leaves : MethodName := ⟨RX10, "leaves", "(II)I"⟩
abbrev cX10_carries : ByteArray := prog_12_method_52_code
def yX10_carries : MethodName := ⟨RX10, "carries", "(I)I"⟩
abbrev cX10_clean : ByteArray := prog_12_method_53_code
def yX10_clean : MethodName := ⟨RX10, "clean", "()I"⟩
abbrev cX10_layLine : ByteArray := prog_12_method_54_code
def yX10_layLine : MethodName := ⟨RX10, "layLine", "(I)V"⟩
abbrev cX10_swapLine : ByteArray := prog_12_method_55_code
def yX10_swapLine : MethodName := ⟨RX10, "swapLine", "(II)V"⟩
abbrev cX10_takeLine : ByteArray := prog_12_method_56_code
def yX10_takeLine : MethodName := ⟨RX10, "takeLine", "()V"⟩
abbrev cX10_nextLine : ByteArray := prog_12_method_57_code
def yX10_nextLine : MethodName := ⟨RX10, "nextLine", "(I)Z"⟩
abbrev cX10_comeAll : ByteArray := prog_12_method_58_code
def yX10_comeAll : MethodName := ⟨RX10, "comeAll", "(I)I"⟩
abbrev cX10_order : ByteArray := prog_12_method_59_code
def yX10_order : MethodName := ⟨RX10, "order", "(I)I"⟩
abbrev cX10_layMats : ByteArray := prog_12_method_60_code
def yX10_layMats : MethodName := ⟨RX10, "layMats", "()V"⟩
abbrev cX10_laying : ByteArray := prog_12_method_61_code
def yX10_laying : MethodName := ⟨RX10, "laying", "(I)I"⟩
abbrev cX10_beating : ByteArray := prog_12_method_62_code
def yX10_beating : MethodName := ⟨RX10, "beating", "(III)I"⟩
abbrev cX10_pacts : ByteArray := prog_12_method_63_code
def yX10_pacts : MethodName := ⟨RX10, "pacts", "(I)I"⟩
abbrev cX10_could : ByteArray := prog_12_method_64_code
def yX10_could : MethodName := ⟨RX10, "could", "(II)I"⟩
abbrev cX10_noItems : ByteArray := prog_12_method_65_code
def yX10_noItems : MethodName := ⟨RX10, "noItems", "(II)I"⟩
abbrev cX10_isSo : ByteArray := prog_12_method_66_code
def yX10_isSo : MethodName := ⟨RX10, "isSo", "(III)Z"⟩
abbrev cX10_who : ByteArray := prog_12_method_67_code
def yX10_who : MethodName := ⟨RX10, "who", "(II)I"⟩
abbrev cX10_fits : ByteArray := prog_12_method_68_code
def yX10_fits : MethodName := ⟨RX10, "fits", "(IIII)I"⟩
abbrev cX10_absent : ByteArray := prog_12_method_69_code
def yX10_absent : MethodName := ⟨RX10, "absent", "(III)I"⟩
abbrev cX10_drawn : ByteArray := prog_12_method_70_code
def yX10_drawn : MethodName := ⟨RX10, "drawn", "(III)I"⟩
abbrev cX10_image : ByteArray := prog_12_method_71_code
def yX10_image : MethodName := ⟨RX10, "image", "(I)I"⟩
abbrev cX10_restore : ByteArray := prog_12_method_72_code
def yX10_restore : MethodName := ⟨RX10, "restore", "(I)I"⟩
abbrev cX10_kind : ByteArray := prog_12_method_73_code
def yX10_kind : MethodName := ⟨RX10, "kind", "(I)I"⟩
abbrev cX10_isOf : ByteArray := prog_12_method_74_code
def yX10_isOf : MethodName := ⟨RX10, "isOf", "(II)Z"⟩
abbrev cX10_as : ByteArray := prog_12_method_75_code
def yX10_as : MethodName := ⟨RX10, "as", "(II)I"⟩
abbrev cX10_begin : ByteArray := prog_12_method_76_code
def yX10_begin : MethodName := ⟨RX10, "begin", "(I)V"⟩
abbrev cX10_lentSize : ByteArray := prog_12_method_77_code
def yX10_lentSize : MethodName := ⟨RX10, "lentSize", "(I)I"⟩
abbrev cX10_wiperSize : ByteArray := prog_12_method_78_code
def yX10_wiperSize : MethodName := ⟨RX10, "wiperSize", "(I)I"⟩
abbrev cX10_stamperSize : ByteArray := prog_12_method_79_code
def yX10_stamperSize : MethodName := ⟨RX10, "stamperSize", "(I)I"⟩
abbrev cX10_sizeOf : ByteArray := prog_12_method_80_code
def yX10_sizeOf : MethodName := ⟨RX10, "sizeOf", "(I)I"⟩
abbrev cX10_lentMark : ByteArray := prog_12_method_81_code
def yX10_lentMark : MethodName := ⟨RX10, "lentMark", "(I)I"⟩
abbrev cX10_wiperMark : ByteArray := prog_12_method_82_code
def yX10_wiperMark : MethodName := ⟨RX10, "wiperMark", "(I)I"⟩
abbrev cX10_mark : ByteArray := prog_12_method_83_code
def yX10_mark : MethodName := ⟨RX10, "mark", "(I)I"⟩
abbrev cX10_stamperMark : ByteArray := prog_12_method_84_code
def yX10_stamperMark : MethodName := ⟨RX10, "stamperMark", "(I)I"⟩
abbrev cX10_ask : ByteArray := prog_12_method_85_code
def yX10_ask : MethodName := ⟨RX10, "ask", "(II)I"⟩
abbrev cX10_trace : ByteArray := prog_12_method_86_code
def yX10_trace : MethodName := ⟨RX10, "trace", "(I)I"⟩
abbrev cX10_comings : ByteArray := prog_12_method_87_code
def yX10_comings : MethodName := ⟨RX10, "comings", "()I"⟩
abbrev cX10_count : ByteArray := prog_12_method_88_code
def yX10_count : MethodName := ⟨RX10, "count", "(I)I"⟩
abbrev cX10_status : ByteArray := prog_12_method_89_code
def yX10_status : MethodName := ⟨RX10, "status", "()I"⟩
def RJ6 : String := "java/lang/Integer"
def TJ6 : u_T := fun k => match k with
  | _ => ("", "", "", false)
def tyJ6 : Nat → FieldType := fun k => match k with
  | _ => .int
abbrev wsJ60 : List Cond := u_ws RJ6 TJ6 0
theorem nmJ6 : ∀ a, a < 0 → ∀ b, b < 0 → a ≠ b → (TJ6 a).2.1 ≠ (TJ6 b).2.1 := by decide +kernel
theorem tyJ6_ok : ∀ k, k < 0 → parseFieldDescriptor (TJ6 k).2.2.1 = some (tyJ6 k) := by decide +kernel
abbrev cJ6_bitCount_0f7a4 : ByteArray := prog_13_method_49_code
def yJ6_bitCount_0f7a4 : MethodName := ⟨RJ6, "bitCount", "(I)I"⟩
def RJ9 : String := "java/lang/Math"
def TJ9 : u_T := fun k => match k with
  | _ => ("", "", "", false)
def tyJ9 : Nat → FieldType := fun k => match k with
  | _ => .int
abbrev wsJ90 : List Cond := u_ws RJ9 TJ9 0
theorem nmJ9 : ∀ a, a < 0 → ∀ b, b < 0 → a ≠ b → (TJ9 a).2.1 ≠ (TJ9 b).2.1 := by decide +kernel
theorem tyJ9_ok : ∀ k, k < 0 → parseFieldDescriptor (TJ9 k).2.2.1 = some (tyJ9 k) := by decide +kernel
abbrev cJ9_min_7cf53 : ByteArray := prog_14_method_69_code
def yJ9_min_7cf53 : MethodName := ⟨RJ9, "min", "(II)I"⟩
def RJ10 : String := "java/lang/System"
def TJ10 : u_T := fun k => match k with
  | _ => ("", "", "", false)
def tyJ10 : Nat → FieldType := fun k => match k with
  | _ => .int
abbrev wsJ100 : List Cond := u_ws RJ10 TJ10 0
theorem nmJ10 : ∀ a, a < 0 → ∀ b, b < 0 → a ≠ b → (TJ10 a).2.1 ≠ (TJ10 b).2.1 := by decide +kernel
theorem tyJ10_ok : ∀ k, k < 0 → parseFieldDescriptor (TJ10 k).2.2.1 = some (tyJ10 k) := by decide +kernel
def RL : String := "MatNationsLaw"
abbrev cL_law : ByteArray := code
def yL_law : MethodName := ⟨RL, "law", "([I)Z"⟩
abbrev vwCl : List vw_C := [(RX0, TX0, 2), (RX1, TX1, 5), (RX2, TX2, 6), (RX3, TX3, 3), (RX4, TX4, 6), (RX5, TX5, 2), (RX6, TX6, 4), (RX7, TX7, 3), (RX8, TX8, 3), (RX9, TX9, 12), (RX10, TX10, 18)]
end
section
/-! tables as numbers: methods, pool entries; the last number of a row is the place of its word in lw_tbl -/
def jm_cn : List String := ["MatNations$Asks", "MatNations$Comer", "MatNations$Foretold", "MatNations$History", "MatNations$House", "MatNations$Mat", "MatNations$Reader", "MatNations$Rows", "MatNations$Walk", "MatNations", "MatNationsModel", "MatNationsLaw", "java/lang/Integer", "java/lang/Math"]
/-- name, code, locals, answer, class, parameters, kind (0 an object's, 1 static, 2 a constructor), cells and slots that it makes, the places of its words -/
abbrev jm_I : Type := MethodName × ByteArray × Nat × Option FieldType × Nat × Nat × Nat × Nat × Nat × List Nat
def jm_i_X0_init : jm_I := (yX0_init, cX0_init, 1, none, 0, 0, 2, 1, 16, [311, 79, 310])
def jm_i_X0_answer : jm_I := (yX0_answer, cX0_answer, 4, some .int, 0, 3, 0, 0, 0, [843, 79, 841, 842])
def jm_i_X0_traced : jm_I := (yX0_traced, cX0_traced, 2, some .int, 0, 1, 0, 0, 0, [866, 79, 864, 865])
def jm_i_X0_bodyOf : jm_I := (yX0_bodyOf, cX0_bodyOf, 3, some .int, 0, 2, 1, 0, 0, [846, 79, 845])
def jm_i_X0_leaveTrace : jm_I := (yX0_leaveTrace, cX0_leaveTrace, 2, none, 0, 1, 0, 0, 0, [858, 79, 857, 22])
def jm_i_X0_give : jm_I := (yX0_give, cX0_give, 6, some .int, 0, 4, 0, 0, 0, [854, 79, 853, 21])
def jm_i_X1_init : jm_I := (yX1_init, cX1_init, 1, none, 1, 0, 2, 0, 0, [161, 75, 160])
def jm_i_X1_takeOver : jm_I := (yX1_takeOver, cX1_takeOver, 2, none, 1, 1, 0, 0, 0, [501, 75, 499, 500])
def jm_i_X1_wipes : jm_I := (yX1_wipes, cX1_wipes, 4, some .int, 1, 3, 0, 0, 0, [549, 75, 547, 548])
def jm_i_X1_isOf : jm_I := (yX1_isOf, cX1_isOf, 4, some .boolean, 1, 1, 0, 0, 0, [833, 75, 831, 832])
def jm_i_X2_init : jm_I := (yX2_init, cX2_init, 1, none, 2, 0, 2, 8, 56, [282, 78, 281])
def jm_i_X2_cleanOnes : jm_I := (yX2_cleanOnes, cX2_cleanOnes, 4, some .int, 2, 1, 0, 0, 0, [641, 78, 639, 640])
def jm_i_X2_told : jm_I := (yX2_told, cX2_told, 3, some .int, 2, 2, 0, 0, 0, [664, 78, 662, 663])
def jm_i_X2_seekOrder : jm_I := (yX2_seekOrder, cX2_seekOrder, 2, none, 2, 1, 0, 0, 0, [651, 78, 649, 650])
def jm_i_X2_tryOrders : jm_I := (yX2_tryOrders, cX2_tryOrders, 7, none, 2, 4, 0, 0, 0, [655, 78, 654, 13])
def jm_i_X2_seekLaying : jm_I := (yX2_seekLaying, cX2_seekLaying, 2, none, 2, 1, 0, 0, 0, [673, 78, 671, 672])
def jm_i_X2_tryLayings : jm_I := (yX2_tryLayings, cX2_tryLayings, 5, none, 2, 3, 0, 0, 0, [677, 78, 676, 15])
def jm_i_X2_keepTried : jm_I := (yX2_keepTried, cX2_keepTried, 3, none, 2, 2, 0, 0, 0, [659, 78, 658, 14])
def jm_i_X2_fewestBeaten : jm_I := (yX2_fewestBeaten, cX2_fewestBeaten, 7, some .int, 2, 3, 0, 0, 0, [701, 78, 699, 700])
def jm_i_X2_carriedIfBeaten : jm_I := (yX2_carriedIfBeaten, cX2_carriedIfBeaten, 5, some .int, 2, 3, 0, 0, 0, [711, 78, 710, 16])
def jm_i_X2_uniters : jm_I := (yX2_uniters, cX2_uniters, 7, some .int, 2, 3, 0, 0, 0, [735, 78, 733, 734])
def jm_i_X2_bindsTo : jm_I := (yX2_bindsTo, cX2_bindsTo, 7, some .boolean, 2, 4, 0, 0, 0, [739, 78, 738, 17])
def jm_i_X2_culprits : jm_I := (yX2_culprits, cX2_culprits, 7, some .int, 2, 4, 0, 0, 0, [751, 78, 749, 750])
def jm_i_X2_tryAs : jm_I := (yX2_tryAs, cX2_tryAs, 2, none, 2, 1, 0, 0, 0, [767, 78, 765, 766])
def jm_i_X2_fitting : jm_I := (yX2_fitting, cX2_fitting, 8, some .int, 2, 5, 0, 0, 0, [772, 78, 770, 771])
def jm_i_X2_giveTrait : jm_I := (yX2_giveTrait, cX2_giveTrait, 3, none, 2, 2, 0, 0, 0, [780, 78, 779, 20])
def jm_i_X2_isSoBehind : jm_I := (yX2_isSoBehind, cX2_isSoBehind, 7, some .boolean, 2, 5, 0, 0, 0, [755, 78, 754, 19])
def jm_i_X2_likelihood : jm_I := (yX2_likelihood, cX2_likelihood, 8, some .int, 2, 4, 0, 0, 0, [788, 78, 786, 787])
def jm_i_X2_weight : jm_I := (yX2_weight, cX2_weight, 5, some .int, 2, 3, 1, 0, 0, [791, 78, 790])
def jm_i_X2_commonDivisor : jm_I := (yX2_commonDivisor, cX2_commonDivisor, 6, some .int, 2, 2, 1, 0, 0, [794, 78, 793])
def jm_i_X2_years : jm_I := (yX2_years, cX2_years, 9, some .int, 2, 4, 0, 0, 0, [803, 78, 801, 802])
def jm_i_X3_init : jm_I := (yX3_init, cX3_init, 1, none, 3, 0, 2, 1, 960, [244, 76, 243])
def jm_i_X3_isEmpty : jm_I := (yX3_isEmpty, cX3_isEmpty, 1, some .boolean, 3, 0, 0, 0, 0, [590, 76, 588, 589])
def jm_i_X3_size : jm_I := (yX3_size, cX3_size, 1, some .int, 3, 0, 0, 0, 0, [889, 76, 887, 888])
def jm_i_X3_forget : jm_I := (yX3_forget, cX3_forget, 1, none, 3, 0, 0, 0, 0, [505, 76, 503, 504])
def jm_i_X3_keep : jm_I := (yX3_keep, cX3_keep, 2, none, 3, 1, 0, 0, 0, [521, 76, 519, 520])
def jm_i_X3_takeBack : jm_I := (yX3_takeBack, cX3_takeBack, 2, some .int, 3, 1, 0, 0, 0, [594, 76, 592, 593])
def jm_i_X4_init : jm_I := (yX4_init, cX4_init, 2, none, 4, 0, 2, 16, 72, [132, 73, 131])
def jm_i_X4_clear : jm_I := (yX4_clear, cX4_clear, 2, none, 4, 0, 0, 0, 0, [441, 73, 439, 440])
def jm_i_X4_takeOver : jm_I := (yX4_takeOver, cX4_takeOver, 3, none, 4, 1, 0, 0, 0, [492, 73, 490, 491])
def jm_i_X4_writeCells : jm_I := (yX4_writeCells, cX4_writeCells, 5, none, 4, 2, 0, 0, 0, [525, 73, 523, 524])
def jm_i_X4_readCells : jm_I := (yX4_readCells, cX4_readCells, 5, none, 4, 2, 0, 0, 0, [598, 73, 596, 597])
def jm_i_X4_allComers : jm_I := (yX4_allComers, cX4_allComers, 1, some .int, 4, 0, 0, 0, 0, [681, 73, 679, 680])
def jm_i_X4_receive : jm_I := (yX4_receive, cX4_receive, 5, some .int, 4, 2, 0, 0, 0, [533, 73, 531, 532])
def jm_i_X4_swapWithNext : jm_I := (yX4_swapWithNext, cX4_swapWithNext, 3, none, 4, 1, 0, 0, 0, [568, 73, 566, 567])
def jm_i_X4_rainOnAll : jm_I := (yX4_rainOnAll, cX4_rainOnAll, 4, some .int, 4, 1, 0, 0, 0, [581, 73, 579, 580])
def jm_i_X4_areAtOne : jm_I := (yX4_areAtOne, cX4_areAtOne, 3, some .boolean, 4, 2, 0, 0, 0, [623, 73, 621, 622])
def jm_i_X4_pactCount : jm_I := (yX4_pactCount, cX4_pactCount, 4, some .int, 4, 0, 0, 0, 0, [721, 73, 719, 720])
def jm_i_X4_firstPact : jm_I := (yX4_firstPact, cX4_firstPact, 3, some .int, 4, 0, 0, 0, 0, [726, 73, 724, 725])
def jm_i_X4_lyingInAll : jm_I := (yX4_lyingInAll, cX4_lyingInAll, 3, some .int, 4, 0, 0, 0, 0, [880, 73, 878, 879])
def jm_i_X4_comings : jm_I := (yX4_comings, cX4_comings, 3, some .int, 4, 0, 0, 0, 0, [885, 73, 883, 884])
def jm_i_X5_init : jm_I := (yX5_init, cX5_init, 1, none, 5, 0, 2, 1, 6, [141, 74, 140])
def jm_i_X5_lying : jm_I := (yX5_lying, cX5_lying, 3, some .int, 5, 0, 0, 0, 0, [541, 74, 539, 540])
def jm_i_X5_master : jm_I := (yX5_master, cX5_master, 3, some .int, 5, 0, 0, 0, 0, [610, 74, 608, 609])
def jm_i_X5_empty : jm_I := (yX5_empty, cX5_empty, 2, none, 5, 0, 0, 0, 0, [445, 74, 443, 444])
def jm_i_X5_takeOver : jm_I := (yX5_takeOver, cX5_takeOver, 2, none, 5, 1, 0, 0, 0, [496, 74, 494, 495])
def jm_i_X6_init : jm_I := (yX6_init, cX6_init, 1, none, 6, 0, 2, 1, 100, [113, 72, 112])
def jm_i_X6_isFull : jm_I := (yX6_isFull, cX6_isFull, 1, some .boolean, 6, 0, 0, 0, 0, [424, 72, 422, 423])
def jm_i_X6_size : jm_I := (yX6_size, cX6_size, 1, some .int, 6, 0, 0, 0, 0, [893, 72, 891, 892])
def jm_i_X6_append : jm_I := (yX6_append, cX6_append, 2, some .int, 6, 1, 0, 0, 0, [429, 72, 427, 428])
def jm_i_X6_place : jm_I := (yX6_place, cX6_place, 1, some .int, 6, 0, 0, 0, 0, [488, 72, 486, 487])
def jm_i_X6_readInto : jm_I := (yX6_readInto, cX6_readInto, 2, some .int, 6, 1, 0, 0, 0, [437, 72, 435, 436])
def jm_i_X6_readLaw : jm_I := (yX6_readLaw, cX6_readLaw, 2, some .boolean, 6, 1, 0, 0, 0, [449, 72, 448, 2])
def jm_i_X6_readMats : jm_I := (yX6_readMats, cX6_readMats, 3, some .boolean, 6, 1, 0, 0, 0, [472, 72, 471, 7])
def jm_i_X6_readComers : jm_I := (yX6_readComers, cX6_readComers, 4, some .boolean, 6, 1, 0, 0, 0, [476, 72, 475, 8])
def jm_i_X6_readTraits : jm_I := (yX6_readTraits, cX6_readTraits, 2, some .boolean, 6, 1, 0, 0, 0, [483, 72, 482, 9])
def jm_i_X6_sortOf : jm_I := (yX6_sortOf, cX6_sortOf, 1, some .int, 6, 1, 1, 0, 0, [479, 72, 478])
def jm_i_X6_seen : jm_I := (yX6_seen, cX6_seen, 1, some .int, 6, 0, 0, 0, 0, [457, 72, 456, 4])
def jm_i_X6_refuse : jm_I := (yX6_refuse, cX6_refuse, 2, some .boolean, 6, 1, 0, 0, 0, [461, 72, 460, 5])
def jm_i_X6_takeByte : jm_I := (yX6_takeByte, cX6_takeByte, 2, some .boolean, 6, 1, 0, 0, 0, [453, 72, 452, 3])
def jm_i_X6_takeNumber : jm_I := (yX6_takeNumber, cX6_takeNumber, 5, some .int, 6, 2, 0, 0, 0, [465, 72, 464, 6])
def jm_i_X6_isFigure : jm_I := (yX6_isFigure, cX6_isFigure, 1, some .boolean, 6, 1, 1, 0, 0, [468, 72, 467])
def jm_i_X7_init : jm_I := (yX7_init, cX7_init, 2, none, 7, 0, 2, 3, 336, [96, 71, 95])
def jm_i_X7_isMissing : jm_I := (yX7_isMissing, cX7_isMissing, 2, some .boolean, 7, 1, 0, 0, 0, [385, 71, 383, 384])
def jm_i_X7_sameLane : jm_I := (yX7_sameLane, cX7_sameLane, 3, some .boolean, 7, 2, 0, 0, 0, [401, 71, 399, 400])
def jm_i_X7_reaches : jm_I := (yX7_reaches, cX7_reaches, 4, some .boolean, 7, 3, 0, 0, 0, [389, 71, 387, 388])
def jm_i_X7_item : jm_I := (yX7_item, cX7_item, 3, some .int, 7, 2, 0, 0, 0, [759, 71, 757, 758])
def jm_i_X7_make : jm_I := (yX7_make, cX7_make, 5, none, 7, 3, 0, 0, 0, [373, 71, 371, 372])
def jm_i_X7_put : jm_I := (yX7_put, cX7_put, 5, some .int, 7, 3, 0, 0, 0, [393, 71, 391, 392])
def jm_i_X7_carryOver : jm_I := (yX7_carryOver, cX7_carryOver, 6, none, 7, 5, 0, 0, 0, [405, 71, 403, 404])
def jm_i_X7_remove : jm_I := (yX7_remove, cX7_remove, 3, some .int, 7, 1, 0, 0, 0, [416, 71, 414, 415])
def jm_i_X7_present : jm_I := (yX7_present, cX7_present, 3, some .int, 7, 0, 0, 0, 0, [875, 71, 873, 874])
def jm_i_X8_init : jm_I := (yX8_init, cX8_init, 1, none, 8, 0, 2, 3, 12, [261, 77, 260])
def jm_i_X8_begin : jm_I := (yX8_begin, cX8_begin, 3, none, 8, 1, 0, 0, 0, [537, 77, 535, 536])
def jm_i_X8_goOver : jm_I := (yX8_goOver, cX8_goOver, 7, some .int, 8, 2, 0, 0, 0, [545, 77, 543, 544])
def jm_i_X8_allGoOver : jm_I := (yX8_allGoOver, cX8_allGoOver, 5, some .int, 8, 2, 0, 0, 0, [685, 77, 683, 684])
def jm_i_X8_lyingInAll : jm_I := (yX8_lyingInAll, cX8_lyingInAll, 4, some .int, 8, 1, 0, 0, 0, [810, 77, 808, 809])
def jm_i_X9_init : jm_I := (yX9_init, cX9_init, 2, none, 9, 0, 2, 93, 1817, [88, 70, 87])
def jm_i_X9_row : jm_I := (yX9_row, cX9_row, 4, some .int, 9, 3, 0, 0, 0, [360, 70, 358, 359])
def jm_i_X9_set : jm_I := (yX9_set, cX9_set, 4, some .int, 9, 3, 0, 0, 0, [381, 70, 379, 380])
def jm_i_X9_copy : jm_I := (yX9_copy, cX9_copy, 6, some .int, 9, 5, 0, 0, 0, [397, 70, 395, 396])
def jm_i_X9_drop : jm_I := (yX9_drop, cX9_drop, 2, some .int, 9, 1, 0, 0, 0, [412, 70, 410, 411])
def jm_i_X9_feed : jm_I := (yX9_feed, cX9_feed, 2, some .int, 9, 1, 0, 0, 0, [420, 70, 418, 419])
def jm_i_X9_hotel : jm_I := (yX9_hotel, cX9_hotel, 2, some .int, 9, 0, 0, 0, 0, [433, 70, 431, 432])
def jm_i_X9_fault : jm_I := (yX9_fault, cX9_fault, 1, some .int, 9, 0, 0, 0, 0, [509, 70, 507, 508])
def jm_i_X9_come : jm_I := (yX9_come, cX9_come, 2, some .int, 9, 1, 0, 0, 0, [513, 70, 511, 512])
def jm_i_X9_beat : jm_I := (yX9_beat, cX9_beat, 3, some .int, 9, 1, 0, 0, 0, [554, 70, 552, 553])
def jm_i_X9_change : jm_I := (yX9_change, cX9_change, 2, some .int, 9, 1, 0, 0, 0, [564, 70, 562, 563])
def jm_i_X9_rain : jm_I := (yX9_rain, cX9_rain, 2, some .int, 9, 1, 0, 0, 0, [572, 70, 570, 571])
def jm_i_X9_undo : jm_I := (yX9_undo, cX9_undo, 1, some .int, 9, 0, 0, 0, 0, [586, 70, 584, 585])
def jm_i_X9_comer : jm_I := (yX9_comer, cX9_comer, 4, some .int, 9, 2, 0, 0, 0, [602, 70, 600, 601])
def jm_i_X9_mat : jm_I := (yX9_mat, cX9_mat, 4, some .int, 9, 2, 0, 0, 0, [606, 70, 604, 605])
def jm_i_X9_soil : jm_I := (yX9_soil, cX9_soil, 3, some .int, 9, 2, 0, 0, 0, [615, 70, 613, 614])
def jm_i_X9_atOne : jm_I := (yX9_atOne, cX9_atOne, 3, some .int, 9, 2, 0, 0, 0, [619, 70, 617, 618])
def jm_i_X9_leaves : jm_I := (yX9_leaves, cX9_leaves, 3, some .int, 9, 2, 0, 0, 0, [627, 70, 625, 626])
def jm_i_X9_carries : jm_I := (yX9_carries, cX9_carries, 2, some .int, 9, 1, 0, 0, 0, [633, 70, 631, 632])
def jm_i_X9_clean : jm_I := (yX9_clean, cX9_clean, 1, some .int, 9, 0, 0, 0, 0, [637, 70, 635, 636])
def jm_i_X9_order : jm_I := (yX9_order, cX9_order, 2, some .int, 9, 1, 0, 0, 0, [647, 70, 645, 646])
def jm_i_X9_laying : jm_I := (yX9_laying, cX9_laying, 2, some .int, 9, 1, 0, 0, 0, [669, 70, 667, 668])
def jm_i_X9_beating : jm_I := (yX9_beating, cX9_beating, 5, some .int, 9, 3, 0, 0, 0, [690, 70, 688, 689])
def jm_i_X9_pacts : jm_I := (yX9_pacts, cX9_pacts, 2, some .int, 9, 1, 0, 0, 0, [717, 70, 715, 716])
def jm_i_X9_could : jm_I := (yX9_could, cX9_could, 3, some .int, 9, 2, 0, 0, 0, [731, 70, 729, 730])
def jm_i_X9_who : jm_I := (yX9_who, cX9_who, 4, some .int, 9, 2, 0, 0, 0, [743, 70, 741, 742])
def jm_i_X9_fits : jm_I := (yX9_fits, cX9_fits, 6, some .int, 9, 4, 0, 0, 0, [763, 70, 761, 762])
def jm_i_X9_absent : jm_I := (yX9_absent, cX9_absent, 4, some .int, 9, 3, 0, 0, 0, [784, 70, 782, 783])
def jm_i_X9_drawn : jm_I := (yX9_drawn, cX9_drawn, 4, some .int, 9, 3, 0, 0, 0, [798, 70, 796, 797])
def jm_i_X9_image : jm_I := (yX9_image, cX9_image, 2, some .int, 9, 1, 0, 0, 0, [814, 70, 812, 813])
def jm_i_X9_restore : jm_I := (yX9_restore, cX9_restore, 2, some .int, 9, 1, 0, 0, 0, [821, 70, 819, 820])
def jm_i_X9_kind : jm_I := (yX9_kind, cX9_kind, 2, some .int, 9, 1, 0, 0, 0, [825, 70, 823, 824])
def jm_i_X9_as : jm_I := (yX9_as, cX9_as, 3, some .int, 9, 2, 0, 0, 0, [829, 70, 827, 828])
def jm_i_X9_ask : jm_I := (yX9_ask, cX9_ask, 3, some .int, 9, 2, 0, 0, 0, [839, 70, 837, 838])
def jm_i_X9_trace : jm_I := (yX9_trace, cX9_trace, 2, some .int, 9, 1, 0, 0, 0, [862, 70, 860, 861])
def jm_i_X9_count : jm_I := (yX9_count, cX9_count, 2, some .int, 9, 1, 0, 0, 0, [871, 70, 869, 870])
def jm_i_X9_status : jm_I := (yX9_status, cX9_status, 1, some .int, 9, 0, 0, 0, 0, [897, 70, 895, 896])
def jm_i_X9_noRow : jm_I := (yX9_noRow, cX9_noRow, 1, some .boolean, 9, 1, 1, 0, 0, [363, 70, 362])
def jm_i_X9_noImage : jm_I := (yX9_noImage, cX9_noImage, 1, some .boolean, 9, 1, 1, 0, 0, [817, 70, 816])
def jm_i_X9_noCarried : jm_I := (yX9_noCarried, cX9_noCarried, 1, some .boolean, 9, 1, 1, 0, 0, [694, 70, 693])
def jm_i_X9_neither : jm_I := (yX9_neither, cX9_neither, 1, some .boolean, 9, 1, 1, 0, 0, [697, 70, 696])
def jm_i_X9_noHotel : jm_I := (yX9_noHotel, cX9_noHotel, 1, some .boolean, 9, 0, 0, 0, 0, [576, 70, 575, 12])
def jm_i_X9_noComer : jm_I := (yX9_noComer, cX9_noComer, 2, some .boolean, 9, 1, 0, 0, 0, [517, 70, 516, 10])
def jm_i_X9_noMat : jm_I := (yX9_noMat, cX9_noMat, 2, some .boolean, 9, 1, 0, 0, 0, [558, 70, 557, 11])
def jm_i_X9_found : jm_I := (yX9_found, cX9_found, 2, some .int, 9, 1, 0, 0, 0, [368, 70, 367, 0])
def jm_i_X9_unfound : jm_I := (yX9_unfound, cX9_unfound, 2, some .int, 9, 1, 0, 0, 0, [377, 70, 376, 1])
def jm_i_X9_matRowFinding : jm_I := (yX9_matRowFinding, cX9_matRowFinding, 3, some .int, 9, 2, 0, 0, 0, [747, 70, 746, 18])
def jm_i_X10_init : jm_I := (yX10_init, cX10_init, 1, none, 10, 0, 2, 9, 2202, [902, 80, 901])
def jm_i_X10_in : jm_I := (yX10_in, cX10_in, 6, some .boolean, 10, 3, 1, 0, 0, [969, 80, 968])
def jm_i_X10_has : jm_I := (yX10_has, cX10_has, 2, some .boolean, 10, 2, 1, 0, 0, [1200, 80, 1199])
def jm_i_X10_bits : jm_I := (yX10_bits, cX10_bits, 3, some .int, 10, 1, 1, 0, 0, [1208, 80, 1207])
def jm_i_X10_find : jm_I := (yX10_find, cX10_find, 2, some .int, 10, 1, 0, 0, 0, [975, 80, 974, 23])
def jm_i_X10_well : jm_I := (yX10_well, cX10_well, 2, some .int, 10, 1, 0, 0, 0, [980, 80, 979, 24])
def jm_i_X10_isRow : jm_I := (yX10_isRow, cX10_isRow, 1, some .boolean, 10, 1, 1, 0, 0, [965, 80, 964])
def jm_i_X10_row : jm_I := (yX10_row, cX10_row, 5, some .int, 10, 3, 0, 0, 0, [962, 80, 960, 961])
def jm_i_X10_narrow : jm_I := (yX10_narrow, cX10_narrow, 2, some .int, 10, 2, 1, 0, 0, [987, 80, 986])
def jm_i_X10_set : jm_I := (yX10_set, cX10_set, 4, some .int, 10, 3, 0, 0, 0, [984, 80, 982, 983])
def jm_i_X10_isSpan : jm_I := (yX10_isSpan, cX10_isSpan, 4, some .boolean, 10, 3, 0, 0, 0, [995, 80, 994, 25])
def jm_i_X10_copy : jm_I := (yX10_copy, cX10_copy, 9, some .int, 10, 5, 0, 0, 0, [991, 80, 989, 990])
def jm_i_X10_drop : jm_I := (yX10_drop, cX10_drop, 3, some .int, 10, 1, 0, 0, 0, [999, 80, 997, 998])
def jm_i_X10_feed : jm_I := (yX10_feed, cX10_feed, 2, some .int, 10, 1, 0, 0, 0, [1003, 80, 1001, 1002])
def jm_i_X10_isLetter : jm_I := (yX10_isLetter, cX10_isLetter, 2, some .boolean, 10, 1, 0, 0, 0, [1025, 80, 1024, 29])
def jm_i_X10_isFigure : jm_I := (yX10_isFigure, cX10_isFigure, 2, some .boolean, 10, 1, 0, 0, 0, [1037, 80, 1036, 32])
def jm_i_X10_refuse : jm_I := (yX10_refuse, cX10_refuse, 2, some .boolean, 10, 1, 0, 0, 0, [1029, 80, 1028, 30])
def jm_i_X10_sign : jm_I := (yX10_sign, cX10_sign, 2, some .boolean, 10, 1, 0, 0, 0, [1021, 80, 1020, 28])
def jm_i_X10_readsNumber : jm_I := (yX10_readsNumber, cX10_readsNumber, 4, some .boolean, 10, 2, 0, 0, 0, [1033, 80, 1032, 31])
def jm_i_X10_readsLaw : jm_I := (yX10_readsLaw, cX10_readsLaw, 1, some .boolean, 10, 0, 0, 0, 0, [1017, 80, 1016, 27])
def jm_i_X10_readsMat : jm_I := (yX10_readsMat, cX10_readsMat, 2, some .boolean, 10, 0, 0, 0, 0, [1043, 80, 1042, 33])
def jm_i_X10_kindOfLetter : jm_I := (yX10_kindOfLetter, cX10_kindOfLetter, 1, some .int, 10, 1, 1, 0, 0, [1050, 80, 1049])
def jm_i_X10_readsComer : jm_I := (yX10_readsComer, cX10_readsComer, 2, some .boolean, 10, 0, 0, 0, 0, [1054, 80, 1053, 35])
def jm_i_X10_isSort : jm_I := (yX10_isSort, cX10_isSort, 1, some .boolean, 10, 0, 0, 0, 0, [1047, 80, 1046, 34])
def jm_i_X10_reads : jm_I := (yX10_reads, cX10_reads, 2, some .boolean, 10, 0, 0, 0, 0, [1013, 80, 1012, 26])
def jm_i_X10_hotel : jm_I := (yX10_hotel, cX10_hotel, 2, some .int, 10, 0, 0, 0, 0, [1009, 80, 1007, 1008])
def jm_i_X10_fault : jm_I := (yX10_fault, cX10_fault, 1, some .int, 10, 0, 0, 0, 0, [1063, 80, 1061, 1062])
def jm_i_X10_copyTown : jm_I := (yX10_copyTown, cX10_copyTown, 4, none, 10, 2, 0, 0, 0, [1059, 80, 1058, 36])
def jm_i_X10_keepPast : jm_I := (yX10_keepPast, cX10_keepPast, 2, none, 10, 0, 0, 0, 0, [1080, 80, 1079, 38])
def jm_i_X10_undo : jm_I := (yX10_undo, cX10_undo, 1, some .int, 10, 0, 0, 0, 0, [1067, 80, 1065, 1066])
def jm_i_X10_isComer : jm_I := (yX10_isComer, cX10_isComer, 2, some .boolean, 10, 1, 0, 0, 0, [1076, 80, 1075, 37])
def jm_i_X10_isMat : jm_I := (yX10_isMat, cX10_isMat, 2, some .boolean, 10, 1, 0, 0, 0, [1100, 80, 1099, 42])
def jm_i_X10_liesOn : jm_I := (yX10_liesOn, cX10_liesOn, 5, some .int, 10, 2, 0, 0, 0, [1092, 80, 1091, 41])
def jm_i_X10_onAll : jm_I := (yX10_onAll, cX10_onAll, 4, some .int, 10, 1, 0, 0, 0, [1249, 80, 1248, 57])
def jm_i_X10_leavesOn : jm_I := (yX10_leavesOn, cX10_leavesOn, 8, some .int, 10, 4, 0, 0, 0, [1088, 80, 1087, 40])
def jm_i_X10_comesAt : jm_I := (yX10_comesAt, cX10_comesAt, 6, some .int, 10, 2, 0, 0, 0, [1084, 80, 1083, 39])
def jm_i_X10_beatsAt : jm_I := (yX10_beatsAt, cX10_beatsAt, 5, some .int, 10, 2, 0, 0, 0, [1104, 80, 1103, 43])
def jm_i_X10_areAtOne : jm_I := (yX10_areAtOne, cX10_areAtOne, 6, some .boolean, 10, 3, 0, 0, 0, [1143, 80, 1142, 46])
def jm_i_X10_come : jm_I := (yX10_come, cX10_come, 2, some .int, 10, 1, 0, 0, 0, [1072, 80, 1070, 1071])
def jm_i_X10_beat : jm_I := (yX10_beat, cX10_beat, 2, some .int, 10, 1, 0, 0, 0, [1096, 80, 1094, 1095])
def jm_i_X10_swapPlaces : jm_I := (yX10_swapPlaces, cX10_swapPlaces, 4, none, 10, 2, 0, 0, 0, [1112, 80, 1111, 44])
def jm_i_X10_change : jm_I := (yX10_change, cX10_change, 3, some .int, 10, 1, 0, 0, 0, [1108, 80, 1106, 1107])
def jm_i_X10_rain : jm_I := (yX10_rain, cX10_rain, 5, some .int, 10, 1, 0, 0, 0, [1116, 80, 1114, 1115])
def jm_i_X10_comer : jm_I := (yX10_comer, cX10_comer, 3, some .int, 10, 2, 0, 0, 0, [1121, 80, 1119, 1120])
def jm_i_X10_masterOf : jm_I := (yX10_masterOf, cX10_masterOf, 6, some .int, 10, 1, 0, 0, 0, [1129, 80, 1128, 45])
def jm_i_X10_mat : jm_I := (yX10_mat, cX10_mat, 3, some .int, 10, 2, 0, 0, 0, [1125, 80, 1123, 1124])
def jm_i_X10_soil : jm_I := (yX10_soil, cX10_soil, 3, some .int, 10, 2, 0, 0, 0, [1134, 80, 1132, 1133])
def jm_i_X10_atOne : jm_I := (yX10_atOne, cX10_atOne, 3, some .int, 10, 2, 0, 0, 0, [1139, 80, 1137, 1138])
def jm_i_X10_layTried : jm_I := (yX10_layTried, cX10_layTried, 1, none, 10, 0, 0, 0, 0, [1155, 80, 1154, 48])
def jm_i_X10_carriesIf : jm_I := (yX10_carriesIf, cX10_carriesIf, 2, some .int, 10, 1, 0, 0, 0, [1151, 80, 1150, 47])
def jm_i_X10_leaves : jm_I := (yX10_leaves, cX10_leaves, 3, some .int, 10, 2, 0, 0, 0, [1147, 80, 1145, 1146])
def jm_i_X10_carries : jm_I := (yX10_carries, cX10_carries, 2, some .int, 10, 1, 0, 0, 0, [1159, 80, 1157, 1158])
def jm_i_X10_clean : jm_I := (yX10_clean, cX10_clean, 3, some .int, 10, 0, 0, 0, 0, [1163, 80, 1161, 1162])
def jm_i_X10_layLine : jm_I := (yX10_layLine, cX10_layLine, 3, none, 10, 1, 0, 0, 0, [1172, 80, 1171, 49])
def jm_i_X10_swapLine : jm_I := (yX10_swapLine, cX10_swapLine, 4, none, 10, 2, 0, 0, 0, [1184, 80, 1183, 52])
def jm_i_X10_takeLine : jm_I := (yX10_takeLine, cX10_takeLine, 2, none, 10, 0, 0, 0, 0, [1176, 80, 1175, 50])
def jm_i_X10_nextLine : jm_I := (yX10_nextLine, cX10_nextLine, 6, some .boolean, 10, 1, 0, 0, 0, [1180, 80, 1179, 51])
def jm_i_X10_comeAll : jm_I := (yX10_comeAll, cX10_comeAll, 4, some .int, 10, 1, 0, 0, 0, [1197, 80, 1196, 54])
def jm_i_X10_order : jm_I := (yX10_order, cX10_order, 7, some .int, 10, 1, 0, 0, 0, [1167, 80, 1165, 1166])
def jm_i_X10_layMats : jm_I := (yX10_layMats, cX10_layMats, 3, none, 10, 0, 0, 0, 0, [1193, 80, 1192, 53])
def jm_i_X10_laying : jm_I := (yX10_laying, cX10_laying, 6, some .int, 10, 1, 0, 0, 0, [1188, 80, 1186, 1187])
def jm_i_X10_beating : jm_I := (yX10_beating, cX10_beating, 7, some .int, 10, 3, 0, 0, 0, [1204, 80, 1202, 1203])
def jm_i_X10_pacts : jm_I := (yX10_pacts, cX10_pacts, 6, some .int, 10, 1, 0, 0, 0, [1212, 80, 1210, 1211])
def jm_i_X10_could : jm_I := (yX10_could, cX10_could, 5, some .int, 10, 2, 0, 0, 0, [1216, 80, 1214, 1215])
def jm_i_X10_noItems : jm_I := (yX10_noItems, cX10_noItems, 3, some .int, 10, 2, 0, 0, 0, [1224, 80, 1223, 55])
def jm_i_X10_isSo : jm_I := (yX10_isSo, cX10_isSo, 6, some .boolean, 10, 3, 0, 0, 0, [1228, 80, 1227, 56])
def jm_i_X10_who : jm_I := (yX10_who, cX10_who, 6, some .int, 10, 2, 0, 0, 0, [1220, 80, 1218, 1219])
def jm_i_X10_fits : jm_I := (yX10_fits, cX10_fits, 11, some .int, 10, 4, 0, 0, 0, [1232, 80, 1230, 1231])
def jm_i_X10_absent : jm_I := (yX10_absent, cX10_absent, 9, some .int, 10, 3, 0, 0, 0, [1236, 80, 1234, 1235])
def jm_i_X10_drawn : jm_I := (yX10_drawn, cX10_drawn, 8, some .int, 10, 3, 0, 0, 0, [1241, 80, 1239, 1240])
def jm_i_X10_image : jm_I := (yX10_image, cX10_image, 2, some .int, 10, 1, 0, 0, 0, [1253, 80, 1251, 1252])
def jm_i_X10_restore : jm_I := (yX10_restore, cX10_restore, 2, some .int, 10, 1, 0, 0, 0, [1257, 80, 1255, 1256])
def jm_i_X10_kind : jm_I := (yX10_kind, cX10_kind, 2, some .int, 10, 1, 0, 0, 0, [1261, 80, 1259, 1260])
def jm_i_X10_isOf : jm_I := (yX10_isOf, cX10_isOf, 4, some .boolean, 10, 2, 0, 0, 0, [1269, 80, 1268, 58])
def jm_i_X10_as : jm_I := (yX10_as, cX10_as, 3, some .int, 10, 2, 0, 0, 0, [1265, 80, 1263, 1264])
def jm_i_X10_begin : jm_I := (yX10_begin, cX10_begin, 2, none, 10, 1, 0, 0, 0, [1281, 80, 1280, 60])
def jm_i_X10_lentSize : jm_I := (yX10_lentSize, cX10_lentSize, 2, some .int, 10, 1, 0, 0, 0, [1289, 80, 1288, 62])
def jm_i_X10_wiperSize : jm_I := (yX10_wiperSize, cX10_wiperSize, 3, some .int, 10, 1, 0, 0, 0, [1285, 80, 1284, 61])
def jm_i_X10_stamperSize : jm_I := (yX10_stamperSize, cX10_stamperSize, 2, some .int, 10, 1, 0, 0, 0, [1305, 80, 1304, 66])
def jm_i_X10_sizeOf : jm_I := (yX10_sizeOf, cX10_sizeOf, 2, some .int, 10, 1, 0, 0, 0, [1277, 80, 1276, 59])
def jm_i_X10_lentMark : jm_I := (yX10_lentMark, cX10_lentMark, 2, some .int, 10, 1, 0, 0, 0, [1301, 80, 1300, 65])
def jm_i_X10_wiperMark : jm_I := (yX10_wiperMark, cX10_wiperMark, 2, some .int, 10, 1, 0, 0, 0, [1297, 80, 1296, 64])
def jm_i_X10_mark : jm_I := (yX10_mark, cX10_mark, 2, some .int, 10, 1, 0, 0, 0, [1293, 80, 1292, 63])
def jm_i_X10_stamperMark : jm_I := (yX10_stamperMark, cX10_stamperMark, 3, some .int, 10, 1, 0, 0, 0, [1309, 80, 1308, 67])
def jm_i_X10_ask : jm_I := (yX10_ask, cX10_ask, 3, some .int, 10, 2, 0, 0, 0, [1273, 80, 1271, 1272])
def jm_i_X10_trace : jm_I := (yX10_trace, cX10_trace, 2, some .int, 10, 1, 0, 0, 0, [1313, 80, 1311, 1312])
def jm_i_X10_comings : jm_I := (yX10_comings, cX10_comings, 3, some .int, 10, 0, 0, 0, 0, [1321, 80, 1320, 68])
def jm_i_X10_count : jm_I := (yX10_count, cX10_count, 4, some .int, 10, 1, 0, 0, 0, [1317, 80, 1315, 1316])
def jm_i_X10_status : jm_I := (yX10_status, cX10_status, 1, some .int, 10, 0, 0, 0, 0, [1325, 80, 1323, 1324])
def jm_i_J6_bitCount_0f7a4 : jm_I := (yJ6_bitCount_0f7a4, cJ6_bitCount_0f7a4, 1, some .int, 12, 1, 1, 0, 0, [704, 83, 703])
def jm_i_L_law : jm_I := (yL_law, cL_law, 4, some .boolean, 11, 1, 1, 0, 0, [])
def jm_mi : List jm_I := [jm_i_X0_init, jm_i_X0_answer, jm_i_X0_traced, jm_i_X0_bodyOf, jm_i_X0_leaveTrace, jm_i_X0_give, jm_i_X1_init, jm_i_X1_takeOver, jm_i_X1_wipes, jm_i_X1_isOf, jm_i_X2_init, jm_i_X2_cleanOnes, jm_i_X2_told, jm_i_X2_seekOrder, jm_i_X2_tryOrders, jm_i_X2_seekLaying, jm_i_X2_tryLayings, jm_i_X2_keepTried, jm_i_X2_fewestBeaten, jm_i_X2_carriedIfBeaten, jm_i_X2_uniters, jm_i_X2_bindsTo, jm_i_X2_culprits, jm_i_X2_tryAs, jm_i_X2_fitting, jm_i_X2_giveTrait, jm_i_X2_isSoBehind, jm_i_X2_likelihood, jm_i_X2_weight, jm_i_X2_commonDivisor, jm_i_X2_years, jm_i_X3_init, jm_i_X3_isEmpty, jm_i_X3_size, jm_i_X3_forget, jm_i_X3_keep, jm_i_X3_takeBack, jm_i_X4_init, jm_i_X4_clear, jm_i_X4_takeOver, jm_i_X4_writeCells, jm_i_X4_readCells, jm_i_X4_allComers, jm_i_X4_receive, jm_i_X4_swapWithNext, jm_i_X4_rainOnAll, jm_i_X4_areAtOne, jm_i_X4_pactCount, jm_i_X4_firstPact, jm_i_X4_lyingInAll, jm_i_X4_comings, jm_i_X5_init, jm_i_X5_lying, jm_i_X5_master, jm_i_X5_empty, jm_i_X5_takeOver, jm_i_X6_init, jm_i_X6_isFull, jm_i_X6_size, jm_i_X6_append, jm_i_X6_place, jm_i_X6_readInto, jm_i_X6_readLaw, jm_i_X6_readMats, jm_i_X6_readComers, jm_i_X6_readTraits, jm_i_X6_sortOf, jm_i_X6_seen, jm_i_X6_refuse, jm_i_X6_takeByte, jm_i_X6_takeNumber, jm_i_X6_isFigure, jm_i_X7_init, jm_i_X7_isMissing, jm_i_X7_sameLane, jm_i_X7_reaches, jm_i_X7_item, jm_i_X7_make, jm_i_X7_put, jm_i_X7_carryOver, jm_i_X7_remove, jm_i_X7_present, jm_i_X8_init, jm_i_X8_begin, jm_i_X8_goOver, jm_i_X8_allGoOver, jm_i_X8_lyingInAll, jm_i_X9_init, jm_i_X9_row, jm_i_X9_set, jm_i_X9_copy, jm_i_X9_drop, jm_i_X9_feed, jm_i_X9_hotel, jm_i_X9_fault, jm_i_X9_come, jm_i_X9_beat, jm_i_X9_change, jm_i_X9_rain, jm_i_X9_undo, jm_i_X9_comer, jm_i_X9_mat, jm_i_X9_soil, jm_i_X9_atOne, jm_i_X9_leaves, jm_i_X9_carries, jm_i_X9_clean, jm_i_X9_order, jm_i_X9_laying, jm_i_X9_beating, jm_i_X9_pacts, jm_i_X9_could, jm_i_X9_who, jm_i_X9_fits, jm_i_X9_absent, jm_i_X9_drawn, jm_i_X9_image, jm_i_X9_restore, jm_i_X9_kind, jm_i_X9_as, jm_i_X9_ask, jm_i_X9_trace, jm_i_X9_count, jm_i_X9_status, jm_i_X9_noRow, jm_i_X9_noImage, jm_i_X9_noCarried, jm_i_X9_neither, jm_i_X9_noHotel, jm_i_X9_noComer, jm_i_X9_noMat, jm_i_X9_found, jm_i_X9_unfound, jm_i_X9_matRowFinding, jm_i_X10_init, jm_i_X10_in, jm_i_X10_has, jm_i_X10_bits, jm_i_X10_find, jm_i_X10_well, jm_i_X10_isRow, jm_i_X10_row, jm_i_X10_narrow, jm_i_X10_set, jm_i_X10_isSpan, jm_i_X10_copy, jm_i_X10_drop, jm_i_X10_feed, jm_i_X10_isLetter, jm_i_X10_isFigure, jm_i_X10_refuse, jm_i_X10_sign, jm_i_X10_readsNumber, jm_i_X10_readsLaw, jm_i_X10_readsMat, jm_i_X10_kindOfLetter, jm_i_X10_readsComer, jm_i_X10_isSort, jm_i_X10_reads, jm_i_X10_hotel, jm_i_X10_fault, jm_i_X10_copyTown, jm_i_X10_keepPast, jm_i_X10_undo, jm_i_X10_isComer, jm_i_X10_isMat, jm_i_X10_liesOn, jm_i_X10_onAll, jm_i_X10_leavesOn, jm_i_X10_comesAt, jm_i_X10_beatsAt, jm_i_X10_areAtOne, jm_i_X10_come, jm_i_X10_beat, jm_i_X10_swapPlaces, jm_i_X10_change, jm_i_X10_rain, jm_i_X10_comer, jm_i_X10_masterOf, jm_i_X10_mat, jm_i_X10_soil, jm_i_X10_atOne, jm_i_X10_layTried, jm_i_X10_carriesIf, jm_i_X10_leaves, jm_i_X10_carries, jm_i_X10_clean, jm_i_X10_layLine, jm_i_X10_swapLine, jm_i_X10_takeLine, jm_i_X10_nextLine, jm_i_X10_comeAll, jm_i_X10_order, jm_i_X10_layMats, jm_i_X10_laying, jm_i_X10_beating, jm_i_X10_pacts, jm_i_X10_could, jm_i_X10_noItems, jm_i_X10_isSo, jm_i_X10_who, jm_i_X10_fits, jm_i_X10_absent, jm_i_X10_drawn, jm_i_X10_image, jm_i_X10_restore, jm_i_X10_kind, jm_i_X10_isOf, jm_i_X10_as, jm_i_X10_begin, jm_i_X10_lentSize, jm_i_X10_wiperSize, jm_i_X10_stamperSize, jm_i_X10_sizeOf, jm_i_X10_lentMark, jm_i_X10_wiperMark, jm_i_X10_mark, jm_i_X10_stamperMark, jm_i_X10_ask, jm_i_X10_trace, jm_i_X10_comings, jm_i_X10_count, jm_i_X10_status, jm_i_J6_bitCount_0f7a4, jm_i_L_law]
def jm_fl : List (Nat × Nat × Nat × Nat × Nat) := [(7, 9, 7, 0, 98), (7, 13, 7, 1, 99), (7, 16, 7, 2, 100), (6, 11, 6, 0, 115), (6, 15, 6, 1, 116), (6, 19, 6, 2, 117), (6, 22, 6, 3, 118), (8, 41, 5, 0, 143), (4, 51, 5, 0, 144), (5, 16, 5, 0, 145), (6, 68, 5, 0, 146), (9, 176, 5, 0, 147), (2, 113, 5, 0, 148), (5, 9, 5, 1, 149), (4, 54, 5, 1, 150), (2, 121, 5, 1, 151), (9, 207, 5, 1, 152), (1, 9, 1, 0, 163), (0, 28, 1, 0, 164), (6, 84, 1, 0, 165), (2, 144, 1, 0, 166), (9, 293, 1, 0, 167), (1, 15, 1, 1, 168), (8, 32, 1, 1, 169), (4, 64, 1, 1, 170), (0, 43, 1, 1, 171), (6, 93, 1, 1, 172), (9, 192, 1, 1, 173), (2, 147, 1, 1, 174), (1, 18, 1, 2, 175), (4, 76, 1, 2, 176), (6, 96, 1, 2, 177), (2, 102, 1, 2, 178), (9, 195, 1, 2, 179), (1, 21, 1, 3, 180), (6, 99, 1, 3, 181), (9, 198, 1, 3, 182), (2, 149, 1, 3, 183), (1, 24, 1, 4, 184), (4, 41, 1, 4, 185), (0, 46, 1, 4, 186), (9, 145, 1, 4, 187), (4, 25, 4, 0, 199), (8, 48, 4, 0, 200), (6, 48, 4, 0, 201), (9, 201, 4, 0, 202), (4, 29, 4, 1, 203), (6, 51, 4, 1, 204), (2, 124, 4, 1, 205), (4, 32, 4, 2, 206), (8, 38, 4, 2, 207), (2, 78, 4, 2, 208), (6, 58, 4, 2, 209), (9, 236, 4, 2, 210), (2, 35, 4, 3, 211), (4, 35, 4, 3, 212), (8, 57, 4, 3, 213), (9, 135, 4, 3, 214), (6, 77, 4, 3, 215), (4, 11, 4, 4, 216), (8, 21, 4, 4, 217), (6, 64, 4, 4, 218), (9, 160, 4, 4, 219), (2, 109, 4, 4, 220), (4, 19, 4, 5, 221), (2, 45, 4, 5, 222), (8, 60, 4, 5, 223), (9, 141, 4, 5, 224), (6, 80, 4, 5, 225), (3, 11, 3, 0, 246), (3, 19, 3, 1, 247), (3, 15, 3, 2, 248), (8, 9, 8, 0, 263), (2, 81, 8, 0, 264), (8, 15, 8, 1, 265), (2, 65, 8, 1, 266), (8, 18, 8, 2, 267), (4, 79, 8, 2, 268), (2, 118, 8, 2, 269), (9, 220, 8, 2, 270), (2, 12, 2, 0, 288), (2, 21, 2, 1, 289), (2, 25, 2, 2, 290), (2, 29, 2, 3, 291), (2, 32, 2, 4, 292), (2, 53, 2, 5, 293), (0, 11, 0, 0, 313), (0, 15, 0, 1, 314), (9, 10, 9, 0, 320), (9, 19, 9, 1, 321), (9, 26, 9, 2, 322), (9, 30, 9, 3, 323), (9, 33, 9, 4, 324), (9, 37, 9, 5, 325), (9, 44, 9, 6, 326), (9, 51, 9, 7, 327), (9, 58, 9, 8, 328), (9, 65, 9, 9, 329), (9, 119, 9, 10, 330), (9, 319, 9, 11, 331), (10, 7, 10, 0, 904), (10, 133, 10, 1, 905), (10, 137, 10, 2, 906), (10, 13, 10, 3, 907), (10, 17, 10, 4, 908), (10, 20, 10, 5, 909), (10, 23, 10, 6, 910), (10, 26, 10, 7, 911), (10, 73, 10, 8, 912), (10, 125, 10, 9, 913), (10, 38, 10, 10, 914), (10, 29, 10, 11, 915), (10, 236, 10, 12, 916), (10, 77, 10, 13, 917), (10, 84, 10, 14, 918), (10, 96, 10, 15, 919), (10, 32, 10, 16, 920), (10, 35, 10, 17, 921)]
def jm_sl : List (Nat × Nat × Nat × Nat) := [(2, 135, 1, 773), (2, 138, 2, 775), (1, 27, 0, 834), (0, 33, 3, 847), (0, 36, 4, 849)]
def jm_ml : List (Nat × Nat × Nat × Nat) := [(11, 9, 87, 86), (9, 9, 72, 94), (9, 25, 37, 130), (11, 13, 88, 357), (9, 69, 124, 361), (9, 74, 131, 365), (9, 78, 77, 370), (9, 82, 132, 374), (11, 18, 89, 378), (9, 85, 73, 382), (9, 88, 75, 386), (9, 92, 78, 390), (11, 22, 90, 394), (9, 96, 74, 398), (9, 100, 79, 402), (11, 27, 91, 409), (9, 104, 80, 413), (11, 32, 92, 417), (9, 107, 57, 421), (9, 112, 59, 426), (11, 36, 93, 430), (9, 115, 61, 434), (6, 25, 38, 438), (4, 38, 54, 442), (6, 30, 62, 446), (6, 40, 69, 450), (6, 54, 67, 454), (6, 61, 68, 458), (6, 44, 70, 462), (6, 102, 71, 466), (6, 34, 63, 469), (6, 37, 64, 473), (6, 73, 66, 477), (6, 89, 65, 480), (9, 124, 60, 485), (9, 128, 39, 489), (4, 44, 55, 493), (4, 48, 7, 498), (9, 132, 34, 502), (11, 41, 94, 506), (11, 45, 95, 510), (9, 138, 129, 514), (9, 150, 35, 518), (3, 22, 40, 522), (9, 153, 43, 530), (4, 66, 83, 534), (8, 27, 52, 538), (4, 72, 84, 542), (8, 44, 8, 546), (11, 49, 96, 551), (9, 157, 130, 555), (9, 164, 52, 559), (9, 169, 54, 560), (11, 53, 97, 561), (9, 172, 44, 565), (11, 57, 98, 569), (9, 179, 128, 573), (9, 183, 45, 578), (11, 61, 99, 583), (9, 186, 32, 587), (9, 189, 36, 591), (3, 32, 41, 595), (11, 65, 100, 599), (11, 70, 101, 603), (9, 204, 53, 607), (11, 74, 102, 612), (11, 78, 103, 616), (9, 210, 46, 620), (11, 82, 104, 624), (9, 213, 83, 628), (9, 216, 84, 629), (11, 86, 105, 630), (11, 90, 106, 634), (9, 223, 11, 638), (2, 41, 83, 642), (2, 49, 84, 643), (11, 94, 107, 644), (9, 226, 13, 648), (2, 57, 14, 652), (2, 61, 17, 656), (9, 229, 12, 661), (11, 98, 108, 666), (9, 233, 15, 670), (2, 74, 16, 674), (2, 84, 42, 678), (2, 88, 85, 682), (8, 64, 84, 686), (11, 102, 109, 687), (9, 239, 42, 691), (9, 242, 126, 692), (9, 245, 127, 695), (9, 248, 18, 698), (2, 92, 223, 702), (2, 98, 19, 708), (9, 253, 223, 713), (11, 106, 110, 714), (9, 258, 47, 718), (4, 88, 46, 722), (9, 261, 48, 723), (11, 110, 111, 728), (9, 264, 20, 732), (2, 105, 21, 736), (11, 114, 112, 740), (9, 267, 133, 744), (9, 270, 22, 748), (2, 127, 26, 752), (2, 152, 76, 756), (11, 118, 113, 760), (9, 274, 23, 764), (2, 131, 7, 768), (9, 278, 24, 769), (2, 141, 25, 777), (11, 123, 114, 781), (9, 282, 27, 785), (2, 158, 28, 789), (2, 161, 29, 792), (11, 127, 115, 795), (9, 287, 30, 800), (2, 170, 86, 807), (11, 131, 116, 811), (9, 290, 125, 815), (11, 135, 117, 818), (11, 139, 118, 822), (11, 143, 119, 826), (9, 296, 9, 830), (11, 147, 120, 836), (9, 299, 1, 840), (0, 19, 3, 844), (0, 23, 5, 851), (0, 39, 4, 855), (11, 151, 121, 859), (9, 303, 2, 863), (11, 155, 122, 868), (9, 306, 81, 872), (7, 25, 73, 876), (9, 309, 49, 877), (4, 93, 52, 881), (9, 312, 50, 882), (9, 315, 33, 886), (9, 318, 58, 890), (11, 159, 123, 894), (11, 12, 134, 900), (11, 17, 141, 959), (10, 49, 140, 963), (10, 45, 135, 967), (10, 56, 138, 972), (10, 60, 139, 977), (11, 21, 143, 981), (10, 63, 142, 985), (11, 26, 145, 988), (10, 67, 144, 992), (11, 31, 146, 996), (11, 35, 147, 1000), (11, 40, 159, 1006), (10, 122, 158, 1010), (10, 109, 153, 1014), (10, 99, 151, 1018), (10, 87, 148, 1022), (10, 90, 150, 1026), (10, 102, 152, 1030), (10, 93, 149, 1034), (10, 113, 154, 1040), (10, 116, 157, 1044), (10, 106, 155, 1048), (10, 119, 156, 1051), (10, 129, 161, 1056), (11, 44, 160, 1060), (11, 64, 163, 1064), (11, 48, 172, 1069), (10, 148, 164, 1073), (10, 151, 162, 1077), (10, 154, 169, 1081), (10, 144, 168, 1085), (10, 141, 166, 1089), (11, 52, 173, 1093), (10, 157, 165, 1097), (10, 160, 170, 1101), (11, 56, 175, 1105), (10, 163, 174, 1109), (11, 60, 176, 1113), (11, 69, 177, 1118), (11, 73, 179, 1122), (10, 169, 178, 1126), (11, 77, 180, 1131), (11, 81, 181, 1136), (10, 174, 171, 1140), (11, 85, 184, 1144), (10, 180, 183, 1148), (10, 177, 182, 1152), (11, 89, 185, 1156), (11, 93, 186, 1160), (11, 97, 192, 1164), (10, 191, 187, 1169), (10, 195, 189, 1173), (10, 198, 190, 1177), (10, 183, 188, 1181), (11, 101, 194, 1185), (10, 203, 193, 1190), (10, 206, 191, 1194), (10, 186, 136, 1198), (11, 105, 195, 1201), (10, 211, 137, 1206), (11, 109, 196, 1209), (11, 113, 197, 1213), (11, 117, 200, 1217), (10, 214, 198, 1221), (10, 217, 199, 1225), (11, 122, 201, 1229), (11, 126, 202, 1233), (11, 130, 203, 1238), (10, 230, 167, 1246), (11, 134, 204, 1250), (11, 138, 205, 1254), (11, 142, 206, 1258), (11, 146, 208, 1262), (10, 233, 207, 1266), (11, 150, 218, 1270), (10, 260, 213, 1274), (10, 239, 209, 1278), (10, 248, 211, 1282), (10, 242, 210, 1286), (10, 245, 216, 1290), (10, 257, 215, 1294), (10, 254, 214, 1298), (10, 251, 212, 1302), (10, 263, 217, 1306), (11, 154, 219, 1310), (11, 158, 221, 1314), (10, 266, 220, 1318), (11, 162, 222, 1322)]
def jm_nl : List (Nat × Nat × Nat × Nat) := [(9, 18, 56, 111), (4, 23, 51, 139), (4, 24, 6, 159), (9, 43, 31, 242), (9, 50, 82, 259), (9, 57, 10, 280), (2, 11, 82, 285), (2, 20, 6, 287), (9, 64, 0, 309)]
def jm_ol : List (Nat × Nat × Nat) := [(9, 1, 89), (7, 1, 97), (6, 3, 114), (4, 3, 133), (5, 3, 142), (1, 3, 162), (3, 1, 245), (8, 3, 262), (2, 3, 283), (0, 3, 312), (10, 1, 903)]
def jm_yl : List (Nat × Nat × Nat) := [(7, 19, 406), (5, 20, 497), (4, 58, 526), (2, 68, 660)]
def jm_xl : List (Nat × Nat × Nat) := [(3, 26, 527), (8, 51, 550), (4, 82, 582)]
def jm_kl : List (Nat × Nat × Int × Nat) := [(9, 73, -1000001, 364), (9, 322, -1000010, 369), (9, 111, -1000003, 425), (9, 123, -1000100, 484), (9, 182, -1000002, 577), (5, 15, -1000000, 611), (2, 56, -1000000, 665), (12, 265, 1431655765, 705), (12, 266, 858993459, 706), (12, 267, 252645135, 707), (9, 252, -1000000, 712), (4, 92, -1000000, 727), (9, 286, 999999, 799), (0, 27, -1000000, 867), (10, 55, -1000001, 971), (10, 42, -1000010, 976), (10, 76, -1000003, 1005), (10, 128, -1000100, 1055), (10, 140, -1000002, 1068), (10, 168, -1000000, 1130)]
def jm_jl : List (Nat × Nat × Int × Nat) := [(2, 164, 16807, 804), (2, 166, 2147483647, 805), (2, 168, 7, 806), (10, 43, 7, 966), (10, 53, 2, 970), (10, 71, 255, 1004), (10, 80, 48, 1038), (10, 82, 57, 1039), (10, 166, 20, 1117), (10, 172, 5, 1135), (10, 189, -1, 1168), (10, 201, 3, 1189), (10, 209, 200, 1205), (10, 220, 10, 1237), (10, 222, 60, 1242), (10, 224, 999999, 1243), (10, 226, 16807, 1244), (10, 228, 2147483647, 1245)]
def jm_cl : List (Nat × Nat × Nat × Nat) := [(11, 7, 9, 84), (9, 7, 7, 92), (9, 16, 6, 109), (9, 23, 4, 128), (4, 9, 5, 134), (4, 17, 1, 136), (9, 41, 3, 240), (9, 48, 8, 257), (9, 55, 2, 278), (2, 9, 8, 284), (2, 18, 1, 286), (9, 62, 0, 307), (11, 10, 10, 898)]
def jm_sf : List (String × String × String) := [("MatNations$Comer", "PARENTS", "[I"), ("MatNations$Foretold", "FIRST_TRIED", "[I"), ("MatNations$Foretold", "LAST_TRIED", "[I"), ("MatNations$Asks", "SIZE_BODIES", "[I"), ("MatNations$Asks", "MARK_BODIES", "[I")]
def jm_d0 : jm_I := (⟨"", "", ""⟩, ⟨#[]⟩, 0, none, 0, 0, 0, 0, 0, [])
def jm_in (n : Nat) : jm_I := jm_mi.getD n jm_d0
def jm_y (n : Nat) : MethodName := (jm_in n).1
def jm_co (n : Nat) : ByteArray := (jm_in n).2.1
def jm_ma (n : Nat) : Nat := (jm_in n).2.2.1
def jm_re (n : Nat) : Option FieldType := (jm_in n).2.2.2.1
def jm_ow (n : Nat) : Nat := (jm_in n).2.2.2.2.1
def jm_pa (n : Nat) : Nat := (jm_in n).2.2.2.2.2.1
def jm_ki (n : Nat) : Nat := (jm_in n).2.2.2.2.2.2.1
def jm_mc (n : Nat) : Nat := (jm_in n).2.2.2.2.2.2.2.1
def jm_ms (n : Nat) : Nat := (jm_in n).2.2.2.2.2.2.2.2.1
def jm_pl (n : Nat) : List Nat := (jm_in n).2.2.2.2.2.2.2.2.2
def jm_CN (o : Nat) : String := jm_cn.getD o ""
def jm_c0 : vw_C := ("", TX0, 0)
def jm_T (c : Nat) : u_T := (vwCl.getD c jm_c0).2.1
def jm_N (c : Nat) : Nat := (vwCl.getD c jm_c0).2.2
def jm_flw (q : Nat × Nat × Nat × Nat × Nat) : Cond := .fieldLink (jm_CN q.1) q.2.1 (jm_T q.2.2.1 q.2.2.2.1).1 (jm_T q.2.2.1 q.2.2.2.1).2.1 (jm_T q.2.2.1 q.2.2.2.1).2.2.1
def jm_slw (q : Nat × Nat × Nat × Nat) : Cond := .fieldLink (jm_CN q.1) q.2.1 (jm_sf.getD q.2.2.1 ("", "", "")).1 (jm_sf.getD q.2.2.1 ("", "", "")).2.1 (jm_sf.getD q.2.2.1 ("", "", "")).2.2
def jm_mlw (q : Nat × Nat × Nat × Nat) : Cond := .methodLink (jm_CN q.1) q.2.1 (jm_y q.2.2.1)
def jm_nlw (q : Nat × Nat × Nat × Nat) : Cond := .methodLinkNest (jm_CN q.1) q.2.1 (jm_y q.2.2.1) "MatNations"
def jm_olw (q : Nat × Nat × Nat) : Cond := .methodLink (jm_CN q.1) q.2.1 objectInit
def jm_ylw (q : Nat × Nat × Nat) : Cond := .methodLink (jm_CN q.1) q.2.1 arraycopyName
def jm_xlw (q : Nat × Nat × Nat) : Cond := .methodLink (jm_CN q.1) q.2.1 Lib.Math.min.name
def jm_klw (q : Nat × Nat × Int × Nat) : Cond := .constant (jm_CN q.1) q.2.1 (Int32.ofInt q.2.2.1)
def jm_jlw (q : Nat × Nat × Int × Nat) : Cond := .constantLong (jm_CN q.1) q.2.1 (Int64.ofInt q.2.2.1)
def jm_clw (q : Nat × Nat × Nat × Nat) : Cond := .classLink (jm_CN q.1) q.2.1 (jm_CN q.2.2.1)
/-- a method's own words -/
def jm_miw (x : jm_I) : List Cond := [.code x.1 x.2.1 x.2.2.1 x.2.2.2.1, .initialized x.1.cls] ++ (if x.2.2.2.2.2.2.1 = 1 then [.static x.1] else if x.2.2.2.2.2.2.1 = 0 then [.instanceMethod x.1, .selects x.1.cls x.1 x.1] else [.instanceMethod x.1])
def jm_hw (ws : List Cond) (ps : List Nat) : Bool := decide (ps.map (fun i => lw_tbl[i]?) = ws.map some)
theorem jm_hw_in {ws : List Cond} {ps : List Nat} (h : jm_hw ws ps = true) : ∀ w ∈ ws, w ∈ lw_tbl := by
  intro w hw
  have h1 := of_decide_eq_true h
  have h2 : some w ∈ ps.map (fun i => lw_tbl[i]?) := by rw [h1]; exact List.mem_map.mpr ⟨w, hw, rfl⟩
  obtain ⟨i, -, hi⟩ := List.mem_map.mp h2
  exact List.mem_of_getElem? hi
theorem jm_fl_ok : jm_fl.all (fun q => jm_hw [jm_flw q] [q.2.2.2.2] && decide (q.2.2.2.1 < jm_N q.2.2.1)) = true := by decide +kernel
theorem jm_sl_ok : jm_sl.all (fun q => jm_hw [jm_slw q] [q.2.2.2]) = true := by decide +kernel
theorem jm_ml_ok : jm_ml.all (fun q => jm_hw [jm_mlw q] [q.2.2.2]) = true := by decide +kernel
theorem jm_nl_ok : jm_nl.all (fun q => jm_hw [jm_nlw q] [q.2.2.2]) = true := by decide +kernel
theorem jm_ol_ok : jm_ol.all (fun q => jm_hw [jm_olw q] [q.2.2]) = true := by decide +kernel
theorem jm_yl_ok : jm_yl.all (fun q => jm_hw [jm_ylw q] [q.2.2]) = true := by decide +kernel
theorem jm_xl_ok : jm_xl.all (fun q => jm_hw [jm_xlw q] [q.2.2]) = true := by decide +kernel
theorem jm_kl_ok : jm_kl.all (fun q => jm_hw [jm_klw q] [q.2.2.2]) = true := by decide +kernel
theorem jm_jl_ok : jm_jl.all (fun q => jm_hw [jm_jlw q] [q.2.2.2]) = true := by decide +kernel
theorem jm_cl_ok : jm_cl.all (fun q => jm_hw [jm_clw q] [q.2.2.2]) = true := by decide +kernel
theorem jm_o_X0_init : jm_hw (jm_miw jm_i_X0_init) (jm_i_X0_init.2.2.2.2.2.2.2.2.2) = true := by decide +kernel
theorem jm_o_X0_answer : jm_hw (jm_miw jm_i_X0_answer) (jm_i_X0_answer.2.2.2.2.2.2.2.2.2) = true := by decide +kernel
theorem jm_o_X0_traced : jm_hw (jm_miw jm_i_X0_traced) (jm_i_X0_traced.2.2.2.2.2.2.2.2.2) = true := by decide +kernel
theorem jm_o_X0_bodyOf : jm_hw (jm_miw jm_i_X0_bodyOf) (jm_i_X0_bodyOf.2.2.2.2.2.2.2.2.2) = true := by decide +kernel
theorem jm_o_X0_leaveTrace : jm_hw (jm_miw jm_i_X0_leaveTrace) (jm_i_X0_leaveTrace.2.2.2.2.2.2.2.2.2) = true := by decide +kernel
theorem jm_o_X0_give : jm_hw (jm_miw jm_i_X0_give) (jm_i_X0_give.2.2.2.2.2.2.2.2.2) = true := by decide +kernel
theorem jm_o_X1_init : jm_hw (jm_miw jm_i_X1_init) (jm_i_X1_init.2.2.2.2.2.2.2.2.2) = true := by decide +kernel
theorem jm_o_X1_takeOver : jm_hw (jm_miw jm_i_X1_takeOver) (jm_i_X1_takeOver.2.2.2.2.2.2.2.2.2) = true := by decide +kernel
theorem jm_o_X1_wipes : jm_hw (jm_miw jm_i_X1_wipes) (jm_i_X1_wipes.2.2.2.2.2.2.2.2.2) = true := by decide +kernel
theorem jm_o_X1_isOf : jm_hw (jm_miw jm_i_X1_isOf) (jm_i_X1_isOf.2.2.2.2.2.2.2.2.2) = true := by decide +kernel
theorem jm_o_X2_init : jm_hw (jm_miw jm_i_X2_init) (jm_i_X2_init.2.2.2.2.2.2.2.2.2) = true := by decide +kernel
theorem jm_o_X2_cleanOnes : jm_hw (jm_miw jm_i_X2_cleanOnes) (jm_i_X2_cleanOnes.2.2.2.2.2.2.2.2.2) = true := by decide +kernel
theorem jm_o_X2_told : jm_hw (jm_miw jm_i_X2_told) (jm_i_X2_told.2.2.2.2.2.2.2.2.2) = true := by decide +kernel
theorem jm_o_X2_seekOrder : jm_hw (jm_miw jm_i_X2_seekOrder) (jm_i_X2_seekOrder.2.2.2.2.2.2.2.2.2) = true := by decide +kernel
theorem jm_o_X2_tryOrders : jm_hw (jm_miw jm_i_X2_tryOrders) (jm_i_X2_tryOrders.2.2.2.2.2.2.2.2.2) = true := by decide +kernel
theorem jm_o_X2_seekLaying : jm_hw (jm_miw jm_i_X2_seekLaying) (jm_i_X2_seekLaying.2.2.2.2.2.2.2.2.2) = true := by decide +kernel
theorem jm_o_X2_tryLayings : jm_hw (jm_miw jm_i_X2_tryLayings) (jm_i_X2_tryLayings.2.2.2.2.2.2.2.2.2) = true := by decide +kernel
theorem jm_o_X2_keepTried : jm_hw (jm_miw jm_i_X2_keepTried) (jm_i_X2_keepTried.2.2.2.2.2.2.2.2.2) = true := by decide +kernel
theorem jm_o_X2_fewestBeaten : jm_hw (jm_miw jm_i_X2_fewestBeaten) (jm_i_X2_fewestBeaten.2.2.2.2.2.2.2.2.2) = true := by decide +kernel
theorem jm_o_X2_carriedIfBeaten : jm_hw (jm_miw jm_i_X2_carriedIfBeaten) (jm_i_X2_carriedIfBeaten.2.2.2.2.2.2.2.2.2) = true := by decide +kernel
theorem jm_o_X2_uniters : jm_hw (jm_miw jm_i_X2_uniters) (jm_i_X2_uniters.2.2.2.2.2.2.2.2.2) = true := by decide +kernel
theorem jm_o_X2_bindsTo : jm_hw (jm_miw jm_i_X2_bindsTo) (jm_i_X2_bindsTo.2.2.2.2.2.2.2.2.2) = true := by decide +kernel
theorem jm_o_X2_culprits : jm_hw (jm_miw jm_i_X2_culprits) (jm_i_X2_culprits.2.2.2.2.2.2.2.2.2) = true := by decide +kernel
theorem jm_o_X2_tryAs : jm_hw (jm_miw jm_i_X2_tryAs) (jm_i_X2_tryAs.2.2.2.2.2.2.2.2.2) = true := by decide +kernel
theorem jm_o_X2_fitting : jm_hw (jm_miw jm_i_X2_fitting) (jm_i_X2_fitting.2.2.2.2.2.2.2.2.2) = true := by decide +kernel
theorem jm_o_X2_giveTrait : jm_hw (jm_miw jm_i_X2_giveTrait) (jm_i_X2_giveTrait.2.2.2.2.2.2.2.2.2) = true := by decide +kernel
theorem jm_o_X2_isSoBehind : jm_hw (jm_miw jm_i_X2_isSoBehind) (jm_i_X2_isSoBehind.2.2.2.2.2.2.2.2.2) = true := by decide +kernel
theorem jm_o_X2_likelihood : jm_hw (jm_miw jm_i_X2_likelihood) (jm_i_X2_likelihood.2.2.2.2.2.2.2.2.2) = true := by decide +kernel
theorem jm_o_X2_weight : jm_hw (jm_miw jm_i_X2_weight) (jm_i_X2_weight.2.2.2.2.2.2.2.2.2) = true := by decide +kernel
theorem jm_o_X2_commonDivisor : jm_hw (jm_miw jm_i_X2_commonDivisor) (jm_i_X2_commonDivisor.2.2.2.2.2.2.2.2.2) = true := by decide +kernel
theorem jm_o_X2_years : jm_hw (jm_miw jm_i_X2_years) (jm_i_X2_years.2.2.2.2.2.2.2.2.2) = true := by decide +kernel
theorem jm_o_X3_init : jm_hw (jm_miw jm_i_X3_init) (jm_i_X3_init.2.2.2.2.2.2.2.2.2) = true := by decide +kernel
theorem jm_o_X3_isEmpty : jm_hw (jm_miw jm_i_X3_isEmpty) (jm_i_X3_isEmpty.2.2.2.2.2.2.2.2.2) = true := by decide +kernel
theorem jm_o_X3_size : jm_hw (jm_miw jm_i_X3_size) (jm_i_X3_size.2.2.2.2.2.2.2.2.2) = true := by decide +kernel
theorem jm_o_X3_forget : jm_hw (jm_miw jm_i_X3_forget) (jm_i_X3_forget.2.2.2.2.2.2.2.2.2) = true := by decide +kernel
theorem jm_o_X3_keep : jm_hw (jm_miw jm_i_X3_keep) (jm_i_X3_keep.2.2.2.2.2.2.2.2.2) = true := by decide +kernel
theorem jm_o_X3_takeBack : jm_hw (jm_miw jm_i_X3_takeBack) (jm_i_X3_takeBack.2.2.2.2.2.2.2.2.2) = true := by decide +kernel
theorem jm_o_X4_init : jm_hw (jm_miw jm_i_X4_init) (jm_i_X4_init.2.2.2.2.2.2.2.2.2) = true := by decide +kernel
theorem jm_o_X4_clear : jm_hw (jm_miw jm_i_X4_clear) (jm_i_X4_clear.2.2.2.2.2.2.2.2.2) = true := by decide +kernel
theorem jm_o_X4_takeOver : jm_hw (jm_miw jm_i_X4_takeOver) (jm_i_X4_takeOver.2.2.2.2.2.2.2.2.2) = true := by decide +kernel
theorem jm_o_X4_writeCells : jm_hw (jm_miw jm_i_X4_writeCells) (jm_i_X4_writeCells.2.2.2.2.2.2.2.2.2) = true := by decide +kernel
theorem jm_o_X4_readCells : jm_hw (jm_miw jm_i_X4_readCells) (jm_i_X4_readCells.2.2.2.2.2.2.2.2.2) = true := by decide +kernel
theorem jm_o_X4_allComers : jm_hw (jm_miw jm_i_X4_allComers) (jm_i_X4_allComers.2.2.2.2.2.2.2.2.2) = true := by decide +kernel
theorem jm_o_X4_receive : jm_hw (jm_miw jm_i_X4_receive) (jm_i_X4_receive.2.2.2.2.2.2.2.2.2) = true := by decide +kernel
theorem jm_o_X4_swapWithNext : jm_hw (jm_miw jm_i_X4_swapWithNext) (jm_i_X4_swapWithNext.2.2.2.2.2.2.2.2.2) = true := by decide +kernel
theorem jm_o_X4_rainOnAll : jm_hw (jm_miw jm_i_X4_rainOnAll) (jm_i_X4_rainOnAll.2.2.2.2.2.2.2.2.2) = true := by decide +kernel
theorem jm_o_X4_areAtOne : jm_hw (jm_miw jm_i_X4_areAtOne) (jm_i_X4_areAtOne.2.2.2.2.2.2.2.2.2) = true := by decide +kernel
theorem jm_o_X4_pactCount : jm_hw (jm_miw jm_i_X4_pactCount) (jm_i_X4_pactCount.2.2.2.2.2.2.2.2.2) = true := by decide +kernel
theorem jm_o_X4_firstPact : jm_hw (jm_miw jm_i_X4_firstPact) (jm_i_X4_firstPact.2.2.2.2.2.2.2.2.2) = true := by decide +kernel
theorem jm_o_X4_lyingInAll : jm_hw (jm_miw jm_i_X4_lyingInAll) (jm_i_X4_lyingInAll.2.2.2.2.2.2.2.2.2) = true := by decide +kernel
theorem jm_o_X4_comings : jm_hw (jm_miw jm_i_X4_comings) (jm_i_X4_comings.2.2.2.2.2.2.2.2.2) = true := by decide +kernel
theorem jm_o_X5_init : jm_hw (jm_miw jm_i_X5_init) (jm_i_X5_init.2.2.2.2.2.2.2.2.2) = true := by decide +kernel
theorem jm_o_X5_lying : jm_hw (jm_miw jm_i_X5_lying) (jm_i_X5_lying.2.2.2.2.2.2.2.2.2) = true := by decide +kernel
theorem jm_o_X5_master : jm_hw (jm_miw jm_i_X5_master) (jm_i_X5_master.2.2.2.2.2.2.2.2.2) = true := by decide +kernel
theorem jm_o_X5_empty : jm_hw (jm_miw jm_i_X5_empty) (jm_i_X5_empty.2.2.2.2.2.2.2.2.2) = true := by decide +kernel
theorem jm_o_X5_takeOver : jm_hw (jm_miw jm_i_X5_takeOver) (jm_i_X5_takeOver.2.2.2.2.2.2.2.2.2) = true := by decide +kernel
theorem jm_o_X6_init : jm_hw (jm_miw jm_i_X6_init) (jm_i_X6_init.2.2.2.2.2.2.2.2.2) = true := by decide +kernel
theorem jm_o_X6_isFull : jm_hw (jm_miw jm_i_X6_isFull) (jm_i_X6_isFull.2.2.2.2.2.2.2.2.2) = true := by decide +kernel
theorem jm_o_X6_size : jm_hw (jm_miw jm_i_X6_size) (jm_i_X6_size.2.2.2.2.2.2.2.2.2) = true := by decide +kernel
theorem jm_o_X6_append : jm_hw (jm_miw jm_i_X6_append) (jm_i_X6_append.2.2.2.2.2.2.2.2.2) = true := by decide +kernel
theorem jm_o_X6_place : jm_hw (jm_miw jm_i_X6_place) (jm_i_X6_place.2.2.2.2.2.2.2.2.2) = true := by decide +kernel
theorem jm_o_X6_readInto : jm_hw (jm_miw jm_i_X6_readInto) (jm_i_X6_readInto.2.2.2.2.2.2.2.2.2) = true := by decide +kernel
theorem jm_o_X6_readLaw : jm_hw (jm_miw jm_i_X6_readLaw) (jm_i_X6_readLaw.2.2.2.2.2.2.2.2.2) = true := by decide +kernel
theorem jm_o_X6_readMats : jm_hw (jm_miw jm_i_X6_readMats) (jm_i_X6_readMats.2.2.2.2.2.2.2.2.2) = true := by decide +kernel
theorem jm_o_X6_readComers : jm_hw (jm_miw jm_i_X6_readComers) (jm_i_X6_readComers.2.2.2.2.2.2.2.2.2) = true := by decide +kernel
theorem jm_o_X6_readTraits : jm_hw (jm_miw jm_i_X6_readTraits) (jm_i_X6_readTraits.2.2.2.2.2.2.2.2.2) = true := by decide +kernel
theorem jm_o_X6_sortOf : jm_hw (jm_miw jm_i_X6_sortOf) (jm_i_X6_sortOf.2.2.2.2.2.2.2.2.2) = true := by decide +kernel
theorem jm_o_X6_seen : jm_hw (jm_miw jm_i_X6_seen) (jm_i_X6_seen.2.2.2.2.2.2.2.2.2) = true := by decide +kernel
theorem jm_o_X6_refuse : jm_hw (jm_miw jm_i_X6_refuse) (jm_i_X6_refuse.2.2.2.2.2.2.2.2.2) = true := by decide +kernel
theorem jm_o_X6_takeByte : jm_hw (jm_miw jm_i_X6_takeByte) (jm_i_X6_takeByte.2.2.2.2.2.2.2.2.2) = true := by decide +kernel
theorem jm_o_X6_takeNumber : jm_hw (jm_miw jm_i_X6_takeNumber) (jm_i_X6_takeNumber.2.2.2.2.2.2.2.2.2) = true := by decide +kernel
theorem jm_o_X6_isFigure : jm_hw (jm_miw jm_i_X6_isFigure) (jm_i_X6_isFigure.2.2.2.2.2.2.2.2.2) = true := by decide +kernel
theorem jm_o_X7_init : jm_hw (jm_miw jm_i_X7_init) (jm_i_X7_init.2.2.2.2.2.2.2.2.2) = true := by decide +kernel
theorem jm_o_X7_isMissing : jm_hw (jm_miw jm_i_X7_isMissing) (jm_i_X7_isMissing.2.2.2.2.2.2.2.2.2) = true := by decide +kernel
theorem jm_o_X7_sameLane : jm_hw (jm_miw jm_i_X7_sameLane) (jm_i_X7_sameLane.2.2.2.2.2.2.2.2.2) = true := by decide +kernel
theorem jm_o_X7_reaches : jm_hw (jm_miw jm_i_X7_reaches) (jm_i_X7_reaches.2.2.2.2.2.2.2.2.2) = true := by decide +kernel
theorem jm_o_X7_item : jm_hw (jm_miw jm_i_X7_item) (jm_i_X7_item.2.2.2.2.2.2.2.2.2) = true := by decide +kernel
theorem jm_o_X7_make : jm_hw (jm_miw jm_i_X7_make) (jm_i_X7_make.2.2.2.2.2.2.2.2.2) = true := by decide +kernel
theorem jm_o_X7_put : jm_hw (jm_miw jm_i_X7_put) (jm_i_X7_put.2.2.2.2.2.2.2.2.2) = true := by decide +kernel
theorem jm_o_X7_carryOver : jm_hw (jm_miw jm_i_X7_carryOver) (jm_i_X7_carryOver.2.2.2.2.2.2.2.2.2) = true := by decide +kernel
theorem jm_o_X7_remove : jm_hw (jm_miw jm_i_X7_remove) (jm_i_X7_remove.2.2.2.2.2.2.2.2.2) = true := by decide +kernel
theorem jm_o_X7_present : jm_hw (jm_miw jm_i_X7_present) (jm_i_X7_present.2.2.2.2.2.2.2.2.2) = true := by decide +kernel
theorem jm_o_X8_init : jm_hw (jm_miw jm_i_X8_init) (jm_i_X8_init.2.2.2.2.2.2.2.2.2) = true := by decide +kernel
theorem jm_o_X8_begin : jm_hw (jm_miw jm_i_X8_begin) (jm_i_X8_begin.2.2.2.2.2.2.2.2.2) = true := by decide +kernel
theorem jm_o_X8_goOver : jm_hw (jm_miw jm_i_X8_goOver) (jm_i_X8_goOver.2.2.2.2.2.2.2.2.2) = true := by decide +kernel
theorem jm_o_X8_allGoOver : jm_hw (jm_miw jm_i_X8_allGoOver) (jm_i_X8_allGoOver.2.2.2.2.2.2.2.2.2) = true := by decide +kernel
theorem jm_o_X8_lyingInAll : jm_hw (jm_miw jm_i_X8_lyingInAll) (jm_i_X8_lyingInAll.2.2.2.2.2.2.2.2.2) = true := by decide +kernel
theorem jm_o_X9_init : jm_hw (jm_miw jm_i_X9_init) (jm_i_X9_init.2.2.2.2.2.2.2.2.2) = true := by decide +kernel
theorem jm_o_X9_row : jm_hw (jm_miw jm_i_X9_row) (jm_i_X9_row.2.2.2.2.2.2.2.2.2) = true := by decide +kernel
theorem jm_o_X9_set : jm_hw (jm_miw jm_i_X9_set) (jm_i_X9_set.2.2.2.2.2.2.2.2.2) = true := by decide +kernel
theorem jm_o_X9_copy : jm_hw (jm_miw jm_i_X9_copy) (jm_i_X9_copy.2.2.2.2.2.2.2.2.2) = true := by decide +kernel
theorem jm_o_X9_drop : jm_hw (jm_miw jm_i_X9_drop) (jm_i_X9_drop.2.2.2.2.2.2.2.2.2) = true := by decide +kernel
theorem jm_o_X9_feed : jm_hw (jm_miw jm_i_X9_feed) (jm_i_X9_feed.2.2.2.2.2.2.2.2.2) = true := by decide +kernel
theorem jm_o_X9_hotel : jm_hw (jm_miw jm_i_X9_hotel) (jm_i_X9_hotel.2.2.2.2.2.2.2.2.2) = true := by decide +kernel
theorem jm_o_X9_fault : jm_hw (jm_miw jm_i_X9_fault) (jm_i_X9_fault.2.2.2.2.2.2.2.2.2) = true := by decide +kernel
theorem jm_o_X9_come : jm_hw (jm_miw jm_i_X9_come) (jm_i_X9_come.2.2.2.2.2.2.2.2.2) = true := by decide +kernel
theorem jm_o_X9_beat : jm_hw (jm_miw jm_i_X9_beat) (jm_i_X9_beat.2.2.2.2.2.2.2.2.2) = true := by decide +kernel
theorem jm_o_X9_change : jm_hw (jm_miw jm_i_X9_change) (jm_i_X9_change.2.2.2.2.2.2.2.2.2) = true := by decide +kernel
theorem jm_o_X9_rain : jm_hw (jm_miw jm_i_X9_rain) (jm_i_X9_rain.2.2.2.2.2.2.2.2.2) = true := by decide +kernel
theorem jm_o_X9_undo : jm_hw (jm_miw jm_i_X9_undo) (jm_i_X9_undo.2.2.2.2.2.2.2.2.2) = true := by decide +kernel
theorem jm_o_X9_comer : jm_hw (jm_miw jm_i_X9_comer) (jm_i_X9_comer.2.2.2.2.2.2.2.2.2) = true := by decide +kernel
theorem jm_o_X9_mat : jm_hw (jm_miw jm_i_X9_mat) (jm_i_X9_mat.2.2.2.2.2.2.2.2.2) = true := by decide +kernel
theorem jm_o_X9_soil : jm_hw (jm_miw jm_i_X9_soil) (jm_i_X9_soil.2.2.2.2.2.2.2.2.2) = true := by decide +kernel
theorem jm_o_X9_atOne : jm_hw (jm_miw jm_i_X9_atOne) (jm_i_X9_atOne.2.2.2.2.2.2.2.2.2) = true := by decide +kernel
theorem jm_o_X9_leaves : jm_hw (jm_miw jm_i_X9_leaves) (jm_i_X9_leaves.2.2.2.2.2.2.2.2.2) = true := by decide +kernel
theorem jm_o_X9_carries : jm_hw (jm_miw jm_i_X9_carries) (jm_i_X9_carries.2.2.2.2.2.2.2.2.2) = true := by decide +kernel
theorem jm_o_X9_clean : jm_hw (jm_miw jm_i_X9_clean) (jm_i_X9_clean.2.2.2.2.2.2.2.2.2) = true := by decide +kernel
theorem jm_o_X9_order : jm_hw (jm_miw jm_i_X9_order) (jm_i_X9_order.2.2.2.2.2.2.2.2.2) = true := by decide +kernel
theorem jm_o_X9_laying : jm_hw (jm_miw jm_i_X9_laying) (jm_i_X9_laying.2.2.2.2.2.2.2.2.2) = true := by decide +kernel
theorem jm_o_X9_beating : jm_hw (jm_miw jm_i_X9_beating) (jm_i_X9_beating.2.2.2.2.2.2.2.2.2) = true := by decide +kernel
theorem jm_o_X9_pacts : jm_hw (jm_miw jm_i_X9_pacts) (jm_i_X9_pacts.2.2.2.2.2.2.2.2.2) = true := by decide +kernel
theorem jm_o_X9_could : jm_hw (jm_miw jm_i_X9_could) (jm_i_X9_could.2.2.2.2.2.2.2.2.2) = true := by decide +kernel
theorem jm_o_X9_who : jm_hw (jm_miw jm_i_X9_who) (jm_i_X9_who.2.2.2.2.2.2.2.2.2) = true := by decide +kernel
theorem jm_o_X9_fits : jm_hw (jm_miw jm_i_X9_fits) (jm_i_X9_fits.2.2.2.2.2.2.2.2.2) = true := by decide +kernel
theorem jm_o_X9_absent : jm_hw (jm_miw jm_i_X9_absent) (jm_i_X9_absent.2.2.2.2.2.2.2.2.2) = true := by decide +kernel
theorem jm_o_X9_drawn : jm_hw (jm_miw jm_i_X9_drawn) (jm_i_X9_drawn.2.2.2.2.2.2.2.2.2) = true := by decide +kernel
theorem jm_o_X9_image : jm_hw (jm_miw jm_i_X9_image) (jm_i_X9_image.2.2.2.2.2.2.2.2.2) = true := by decide +kernel
theorem jm_o_X9_restore : jm_hw (jm_miw jm_i_X9_restore) (jm_i_X9_restore.2.2.2.2.2.2.2.2.2) = true := by decide +kernel
theorem jm_o_X9_kind : jm_hw (jm_miw jm_i_X9_kind) (jm_i_X9_kind.2.2.2.2.2.2.2.2.2) = true := by decide +kernel
theorem jm_o_X9_as : jm_hw (jm_miw jm_i_X9_as) (jm_i_X9_as.2.2.2.2.2.2.2.2.2) = true := by decide +kernel
theorem jm_o_X9_ask : jm_hw (jm_miw jm_i_X9_ask) (jm_i_X9_ask.2.2.2.2.2.2.2.2.2) = true := by decide +kernel
theorem jm_o_X9_trace : jm_hw (jm_miw jm_i_X9_trace) (jm_i_X9_trace.2.2.2.2.2.2.2.2.2) = true := by decide +kernel
theorem jm_o_X9_count : jm_hw (jm_miw jm_i_X9_count) (jm_i_X9_count.2.2.2.2.2.2.2.2.2) = true := by decide +kernel
theorem jm_o_X9_status : jm_hw (jm_miw jm_i_X9_status) (jm_i_X9_status.2.2.2.2.2.2.2.2.2) = true := by decide +kernel
theorem jm_o_X9_noRow : jm_hw (jm_miw jm_i_X9_noRow) (jm_i_X9_noRow.2.2.2.2.2.2.2.2.2) = true := by decide +kernel
theorem jm_o_X9_noImage : jm_hw (jm_miw jm_i_X9_noImage) (jm_i_X9_noImage.2.2.2.2.2.2.2.2.2) = true := by decide +kernel
theorem jm_o_X9_noCarried : jm_hw (jm_miw jm_i_X9_noCarried) (jm_i_X9_noCarried.2.2.2.2.2.2.2.2.2) = true := by decide +kernel
theorem jm_o_X9_neither : jm_hw (jm_miw jm_i_X9_neither) (jm_i_X9_neither.2.2.2.2.2.2.2.2.2) = true := by decide +kernel
theorem jm_o_X9_noHotel : jm_hw (jm_miw jm_i_X9_noHotel) (jm_i_X9_noHotel.2.2.2.2.2.2.2.2.2) = true := by decide +kernel
theorem jm_o_X9_noComer : jm_hw (jm_miw jm_i_X9_noComer) (jm_i_X9_noComer.2.2.2.2.2.2.2.2.2) = true := by decide +kernel
theorem jm_o_X9_noMat : jm_hw (jm_miw jm_i_X9_noMat) (jm_i_X9_noMat.2.2.2.2.2.2.2.2.2) = true := by decide +kernel
theorem jm_o_X9_found : jm_hw (jm_miw jm_i_X9_found) (jm_i_X9_found.2.2.2.2.2.2.2.2.2) = true := by decide +kernel
theorem jm_o_X9_unfound : jm_hw (jm_miw jm_i_X9_unfound) (jm_i_X9_unfound.2.2.2.2.2.2.2.2.2) = true := by decide +kernel
theorem jm_o_X9_matRowFinding : jm_hw (jm_miw jm_i_X9_matRowFinding) (jm_i_X9_matRowFinding.2.2.2.2.2.2.2.2.2) = true := by decide +kernel
theorem jm_o_X10_init : jm_hw (jm_miw jm_i_X10_init) (jm_i_X10_init.2.2.2.2.2.2.2.2.2) = true := by decide +kernel
theorem jm_o_X10_in : jm_hw (jm_miw jm_i_X10_in) (jm_i_X10_in.2.2.2.2.2.2.2.2.2) = true := by decide +kernel
theorem jm_o_X10_has : jm_hw (jm_miw jm_i_X10_has) (jm_i_X10_has.2.2.2.2.2.2.2.2.2) = true := by decide +kernel
theorem jm_o_X10_bits : jm_hw (jm_miw jm_i_X10_bits) (jm_i_X10_bits.2.2.2.2.2.2.2.2.2) = true := by decide +kernel
theorem jm_o_X10_find : jm_hw (jm_miw jm_i_X10_find) (jm_i_X10_find.2.2.2.2.2.2.2.2.2) = true := by decide +kernel
theorem jm_o_X10_well : jm_hw (jm_miw jm_i_X10_well) (jm_i_X10_well.2.2.2.2.2.2.2.2.2) = true := by decide +kernel
theorem jm_o_X10_isRow : jm_hw (jm_miw jm_i_X10_isRow) (jm_i_X10_isRow.2.2.2.2.2.2.2.2.2) = true := by decide +kernel
theorem jm_o_X10_row : jm_hw (jm_miw jm_i_X10_row) (jm_i_X10_row.2.2.2.2.2.2.2.2.2) = true := by decide +kernel
theorem jm_o_X10_narrow : jm_hw (jm_miw jm_i_X10_narrow) (jm_i_X10_narrow.2.2.2.2.2.2.2.2.2) = true := by decide +kernel
theorem jm_o_X10_set : jm_hw (jm_miw jm_i_X10_set) (jm_i_X10_set.2.2.2.2.2.2.2.2.2) = true := by decide +kernel
theorem jm_o_X10_isSpan : jm_hw (jm_miw jm_i_X10_isSpan) (jm_i_X10_isSpan.2.2.2.2.2.2.2.2.2) = true := by decide +kernel
theorem jm_o_X10_copy : jm_hw (jm_miw jm_i_X10_copy) (jm_i_X10_copy.2.2.2.2.2.2.2.2.2) = true := by decide +kernel
theorem jm_o_X10_drop : jm_hw (jm_miw jm_i_X10_drop) (jm_i_X10_drop.2.2.2.2.2.2.2.2.2) = true := by decide +kernel
theorem jm_o_X10_feed : jm_hw (jm_miw jm_i_X10_feed) (jm_i_X10_feed.2.2.2.2.2.2.2.2.2) = true := by decide +kernel
theorem jm_o_X10_isLetter : jm_hw (jm_miw jm_i_X10_isLetter) (jm_i_X10_isLetter.2.2.2.2.2.2.2.2.2) = true := by decide +kernel
theorem jm_o_X10_isFigure : jm_hw (jm_miw jm_i_X10_isFigure) (jm_i_X10_isFigure.2.2.2.2.2.2.2.2.2) = true := by decide +kernel
theorem jm_o_X10_refuse : jm_hw (jm_miw jm_i_X10_refuse) (jm_i_X10_refuse.2.2.2.2.2.2.2.2.2) = true := by decide +kernel
theorem jm_o_X10_sign : jm_hw (jm_miw jm_i_X10_sign) (jm_i_X10_sign.2.2.2.2.2.2.2.2.2) = true := by decide +kernel
theorem jm_o_X10_readsNumber : jm_hw (jm_miw jm_i_X10_readsNumber) (jm_i_X10_readsNumber.2.2.2.2.2.2.2.2.2) = true := by decide +kernel
theorem jm_o_X10_readsLaw : jm_hw (jm_miw jm_i_X10_readsLaw) (jm_i_X10_readsLaw.2.2.2.2.2.2.2.2.2) = true := by decide +kernel
theorem jm_o_X10_readsMat : jm_hw (jm_miw jm_i_X10_readsMat) (jm_i_X10_readsMat.2.2.2.2.2.2.2.2.2) = true := by decide +kernel
theorem jm_o_X10_kindOfLetter : jm_hw (jm_miw jm_i_X10_kindOfLetter) (jm_i_X10_kindOfLetter.2.2.2.2.2.2.2.2.2) = true := by decide +kernel
theorem jm_o_X10_readsComer : jm_hw (jm_miw jm_i_X10_readsComer) (jm_i_X10_readsComer.2.2.2.2.2.2.2.2.2) = true := by decide +kernel
theorem jm_o_X10_isSort : jm_hw (jm_miw jm_i_X10_isSort) (jm_i_X10_isSort.2.2.2.2.2.2.2.2.2) = true := by decide +kernel
theorem jm_o_X10_reads : jm_hw (jm_miw jm_i_X10_reads) (jm_i_X10_reads.2.2.2.2.2.2.2.2.2) = true := by decide +kernel
theorem jm_o_X10_hotel : jm_hw (jm_miw jm_i_X10_hotel) (jm_i_X10_hotel.2.2.2.2.2.2.2.2.2) = true := by decide +kernel
theorem jm_o_X10_fault : jm_hw (jm_miw jm_i_X10_fault) (jm_i_X10_fault.2.2.2.2.2.2.2.2.2) = true := by decide +kernel
theorem jm_o_X10_copyTown : jm_hw (jm_miw jm_i_X10_copyTown) (jm_i_X10_copyTown.2.2.2.2.2.2.2.2.2) = true := by decide +kernel
theorem jm_o_X10_keepPast : jm_hw (jm_miw jm_i_X10_keepPast) (jm_i_X10_keepPast.2.2.2.2.2.2.2.2.2) = true := by decide +kernel
theorem jm_o_X10_undo : jm_hw (jm_miw jm_i_X10_undo) (jm_i_X10_undo.2.2.2.2.2.2.2.2.2) = true := by decide +kernel
theorem jm_o_X10_isComer : jm_hw (jm_miw jm_i_X10_isComer) (jm_i_X10_isComer.2.2.2.2.2.2.2.2.2) = true := by decide +kernel
theorem jm_o_X10_isMat : jm_hw (jm_miw jm_i_X10_isMat) (jm_i_X10_isMat.2.2.2.2.2.2.2.2.2) = true := by decide +kernel
theorem jm_o_X10_liesOn : jm_hw (jm_miw jm_i_X10_liesOn) (jm_i_X10_liesOn.2.2.2.2.2.2.2.2.2) = true := by decide +kernel
theorem jm_o_X10_onAll : jm_hw (jm_miw jm_i_X10_onAll) (jm_i_X10_onAll.2.2.2.2.2.2.2.2.2) = true := by decide +kernel
theorem jm_o_X10_leavesOn : jm_hw (jm_miw jm_i_X10_leavesOn) (jm_i_X10_leavesOn.2.2.2.2.2.2.2.2.2) = true := by decide +kernel
theorem jm_o_X10_comesAt : jm_hw (jm_miw jm_i_X10_comesAt) (jm_i_X10_comesAt.2.2.2.2.2.2.2.2.2) = true := by decide +kernel
theorem jm_o_X10_beatsAt : jm_hw (jm_miw jm_i_X10_beatsAt) (jm_i_X10_beatsAt.2.2.2.2.2.2.2.2.2) = true := by decide +kernel
theorem jm_o_X10_areAtOne : jm_hw (jm_miw jm_i_X10_areAtOne) (jm_i_X10_areAtOne.2.2.2.2.2.2.2.2.2) = true := by decide +kernel
theorem jm_o_X10_come : jm_hw (jm_miw jm_i_X10_come) (jm_i_X10_come.2.2.2.2.2.2.2.2.2) = true := by decide +kernel
theorem jm_o_X10_beat : jm_hw (jm_miw jm_i_X10_beat) (jm_i_X10_beat.2.2.2.2.2.2.2.2.2) = true := by decide +kernel
theorem jm_o_X10_swapPlaces : jm_hw (jm_miw jm_i_X10_swapPlaces) (jm_i_X10_swapPlaces.2.2.2.2.2.2.2.2.2) = true := by decide +kernel
theorem jm_o_X10_change : jm_hw (jm_miw jm_i_X10_change) (jm_i_X10_change.2.2.2.2.2.2.2.2.2) = true := by decide +kernel
theorem jm_o_X10_rain : jm_hw (jm_miw jm_i_X10_rain) (jm_i_X10_rain.2.2.2.2.2.2.2.2.2) = true := by decide +kernel
theorem jm_o_X10_comer : jm_hw (jm_miw jm_i_X10_comer) (jm_i_X10_comer.2.2.2.2.2.2.2.2.2) = true := by decide +kernel
theorem jm_o_X10_masterOf : jm_hw (jm_miw jm_i_X10_masterOf) (jm_i_X10_masterOf.2.2.2.2.2.2.2.2.2) = true := by decide +kernel
theorem jm_o_X10_mat : jm_hw (jm_miw jm_i_X10_mat) (jm_i_X10_mat.2.2.2.2.2.2.2.2.2) = true := by decide +kernel
theorem jm_o_X10_soil : jm_hw (jm_miw jm_i_X10_soil) (jm_i_X10_soil.2.2.2.2.2.2.2.2.2) = true := by decide +kernel
theorem jm_o_X10_atOne : jm_hw (jm_miw jm_i_X10_atOne) (jm_i_X10_atOne.2.2.2.2.2.2.2.2.2) = true := by decide +kernel
theorem jm_o_X10_layTried : jm_hw (jm_miw jm_i_X10_layTried) (jm_i_X10_layTried.2.2.2.2.2.2.2.2.2) = true := by decide +kernel
theorem jm_o_X10_carriesIf : jm_hw (jm_miw jm_i_X10_carriesIf) (jm_i_X10_carriesIf.2.2.2.2.2.2.2.2.2) = true := by decide +kernel
theorem jm_o_X10_leaves : jm_hw (jm_miw jm_i_X10_leaves) (jm_i_X10_leaves.2.2.2.2.2.2.2.2.2) = true := by decide +kernel
theorem jm_o_X10_carries : jm_hw (jm_miw jm_i_X10_carries) (jm_i_X10_carries.2.2.2.2.2.2.2.2.2) = true := by decide +kernel
theorem jm_o_X10_clean : jm_hw (jm_miw jm_i_X10_clean) (jm_i_X10_clean.2.2.2.2.2.2.2.2.2) = true := by decide +kernel
theorem jm_o_X10_layLine : jm_hw (jm_miw jm_i_X10_layLine) (jm_i_X10_layLine.2.2.2.2.2.2.2.2.2) = true := by decide +kernel
theorem jm_o_X10_swapLine : jm_hw (jm_miw jm_i_X10_swapLine) (jm_i_X10_swapLine.2.2.2.2.2.2.2.2.2) = true := by decide +kernel
theorem jm_o_X10_takeLine : jm_hw (jm_miw jm_i_X10_takeLine) (jm_i_X10_takeLine.2.2.2.2.2.2.2.2.2) = true := by decide +kernel
theorem jm_o_X10_nextLine : jm_hw (jm_miw jm_i_X10_nextLine) (jm_i_X10_nextLine.2.2.2.2.2.2.2.2.2) = true := by decide +kernel
theorem jm_o_X10_comeAll : jm_hw (jm_miw jm_i_X10_comeAll) (jm_i_X10_comeAll.2.2.2.2.2.2.2.2.2) = true := by decide +kernel
theorem jm_o_X10_order : jm_hw (jm_miw jm_i_X10_order) (jm_i_X10_order.2.2.2.2.2.2.2.2.2) = true := by decide +kernel
theorem jm_o_X10_layMats : jm_hw (jm_miw jm_i_X10_layMats) (jm_i_X10_layMats.2.2.2.2.2.2.2.2.2) = true := by decide +kernel
theorem jm_o_X10_laying : jm_hw (jm_miw jm_i_X10_laying) (jm_i_X10_laying.2.2.2.2.2.2.2.2.2) = true := by decide +kernel
theorem jm_o_X10_beating : jm_hw (jm_miw jm_i_X10_beating) (jm_i_X10_beating.2.2.2.2.2.2.2.2.2) = true := by decide +kernel
theorem jm_o_X10_pacts : jm_hw (jm_miw jm_i_X10_pacts) (jm_i_X10_pacts.2.2.2.2.2.2.2.2.2) = true := by decide +kernel
theorem jm_o_X10_could : jm_hw (jm_miw jm_i_X10_could) (jm_i_X10_could.2.2.2.2.2.2.2.2.2) = true := by decide +kernel
theorem jm_o_X10_noItems : jm_hw (jm_miw jm_i_X10_noItems) (jm_i_X10_noItems.2.2.2.2.2.2.2.2.2) = true := by decide +kernel
theorem jm_o_X10_isSo : jm_hw (jm_miw jm_i_X10_isSo) (jm_i_X10_isSo.2.2.2.2.2.2.2.2.2) = true := by decide +kernel
theorem jm_o_X10_who : jm_hw (jm_miw jm_i_X10_who) (jm_i_X10_who.2.2.2.2.2.2.2.2.2) = true := by decide +kernel
theorem jm_o_X10_fits : jm_hw (jm_miw jm_i_X10_fits) (jm_i_X10_fits.2.2.2.2.2.2.2.2.2) = true := by decide +kernel
theorem jm_o_X10_absent : jm_hw (jm_miw jm_i_X10_absent) (jm_i_X10_absent.2.2.2.2.2.2.2.2.2) = true := by decide +kernel
theorem jm_o_X10_drawn : jm_hw (jm_miw jm_i_X10_drawn) (jm_i_X10_drawn.2.2.2.2.2.2.2.2.2) = true := by decide +kernel
theorem jm_o_X10_image : jm_hw (jm_miw jm_i_X10_image) (jm_i_X10_image.2.2.2.2.2.2.2.2.2) = true := by decide +kernel
theorem jm_o_X10_restore : jm_hw (jm_miw jm_i_X10_restore) (jm_i_X10_restore.2.2.2.2.2.2.2.2.2) = true := by decide +kernel
theorem jm_o_X10_kind : jm_hw (jm_miw jm_i_X10_kind) (jm_i_X10_kind.2.2.2.2.2.2.2.2.2) = true := by decide +kernel
theorem jm_o_X10_isOf : jm_hw (jm_miw jm_i_X10_isOf) (jm_i_X10_isOf.2.2.2.2.2.2.2.2.2) = true := by decide +kernel
theorem jm_o_X10_as : jm_hw (jm_miw jm_i_X10_as) (jm_i_X10_as.2.2.2.2.2.2.2.2.2) = true := by decide +kernel
theorem jm_o_X10_begin : jm_hw (jm_miw jm_i_X10_begin) (jm_i_X10_begin.2.2.2.2.2.2.2.2.2) = true := by decide +kernel
theorem jm_o_X10_lentSize : jm_hw (jm_miw jm_i_X10_lentSize) (jm_i_X10_lentSize.2.2.2.2.2.2.2.2.2) = true := by decide +kernel
theorem jm_o_X10_wiperSize : jm_hw (jm_miw jm_i_X10_wiperSize) (jm_i_X10_wiperSize.2.2.2.2.2.2.2.2.2) = true := by decide +kernel
theorem jm_o_X10_stamperSize : jm_hw (jm_miw jm_i_X10_stamperSize) (jm_i_X10_stamperSize.2.2.2.2.2.2.2.2.2) = true := by decide +kernel
theorem jm_o_X10_sizeOf : jm_hw (jm_miw jm_i_X10_sizeOf) (jm_i_X10_sizeOf.2.2.2.2.2.2.2.2.2) = true := by decide +kernel
theorem jm_o_X10_lentMark : jm_hw (jm_miw jm_i_X10_lentMark) (jm_i_X10_lentMark.2.2.2.2.2.2.2.2.2) = true := by decide +kernel
theorem jm_o_X10_wiperMark : jm_hw (jm_miw jm_i_X10_wiperMark) (jm_i_X10_wiperMark.2.2.2.2.2.2.2.2.2) = true := by decide +kernel
theorem jm_o_X10_mark : jm_hw (jm_miw jm_i_X10_mark) (jm_i_X10_mark.2.2.2.2.2.2.2.2.2) = true := by decide +kernel
theorem jm_o_X10_stamperMark : jm_hw (jm_miw jm_i_X10_stamperMark) (jm_i_X10_stamperMark.2.2.2.2.2.2.2.2.2) = true := by decide +kernel
theorem jm_o_X10_ask : jm_hw (jm_miw jm_i_X10_ask) (jm_i_X10_ask.2.2.2.2.2.2.2.2.2) = true := by decide +kernel
theorem jm_o_X10_trace : jm_hw (jm_miw jm_i_X10_trace) (jm_i_X10_trace.2.2.2.2.2.2.2.2.2) = true := by decide +kernel
theorem jm_o_X10_comings : jm_hw (jm_miw jm_i_X10_comings) (jm_i_X10_comings.2.2.2.2.2.2.2.2.2) = true := by decide +kernel
theorem jm_o_X10_count : jm_hw (jm_miw jm_i_X10_count) (jm_i_X10_count.2.2.2.2.2.2.2.2.2) = true := by decide +kernel
theorem jm_o_X10_status : jm_hw (jm_miw jm_i_X10_status) (jm_i_X10_status.2.2.2.2.2.2.2.2.2) = true := by decide +kernel
theorem jm_o_J6_bitCount_0f7a4 : jm_hw (jm_miw jm_i_J6_bitCount_0f7a4) (jm_i_J6_bitCount_0f7a4.2.2.2.2.2.2.2.2.2) = true := by decide +kernel
end
section
/-! A small machine over whole numbers: values are an int, a long or a reference; cells are numbered in the order of their making. -/
abbrev jm_V : Type := Int ⊕ (Int ⊕ Int)
/-- a cell's kind (0 int[], 1 boolean[], 2 .. 9 arrays of references, 10 + c an object of class c), its length, its reference fields -/
abbrev jm_S : Type := Nat × Nat × List Int
abbrev jm_M : Type := Int → Int → Int
abbrev jm_H : Type := List jm_S × jm_M
abbrev jm_E : Type := Nat × Instr × Nat × List Int
abbrev jm_L : Type := List (Option jm_V)
abbrev jm_K : Type := Nat → jm_L → List jm_V → jm_H → Prop
abbrev jm_Q : Type := List jm_V → jm_H → Prop
abbrev jm_C : Type := Nat → List jm_V → jm_H → jm_Q → Prop
abbrev jm_X : Type := Nat → Nat × (Int → Int)
abbrev jm_vi (z : Int) : jm_V := .inl z
abbrev jm_vl (z : Int) : jm_V := .inr (.inl z)
abbrev jm_vr (z : Int) : jm_V := .inr (.inr z)
abbrev jm_r (z : Int) : Prop := -2147483648 ≤ z ∧ z ≤ 2147483647
abbrev jm_rl (z : Int) : Prop := -9223372036854775808 ≤ z ∧ z ≤ 9223372036854775807
def jm_and (a b : Int) : Int := (Int32.ofInt a &&& Int32.ofInt b).toInt
def jm_or (a b : Int) : Int := (Int32.ofInt a ||| Int32.ofInt b).toInt
def jm_xor (a b : Int) : Int := (Int32.ofInt a ^^^ Int32.ofInt b).toInt
def jm_shl (a b : Int) : Int := (Int32.ofInt a <<< (Int32.ofInt b &&& 31)).toInt
def jm_shr (a b : Int) : Int := (Int32.ofInt a >>> (Int32.ofInt b &&& 31)).toInt
def jm_ushr (a b : Int) : Int := (((Int32.ofInt a).toUInt32 >>> ((Int32.ofInt b).toUInt32 &&& Int32.toUInt32 31)).toInt32).toInt
def jm_u1 (f : Int → Int) (j v : Int) : Int → Int := fun b => if b = j then v else f b
def jm_uc (μ : jm_M) (z : Int) (f : Int → Int) : jm_M := fun a => if a = z then f else μ a
def jm_cpy (f g : Int → Int) (sp dp n : Int) : Int → Int := fun k => if dp ≤ k ∧ k < dp + n then f (sp + (k - dp)) else g k
/-- a value comes into the locals; a long ahead of it that it cuts is gone -/
def jm_set : jm_L → Nat → jm_V → jm_L
  | [], _, _ => []
  | _ :: r, 0, v => some v :: r
  | o :: r, 1, v => (match o with | some (.inr (.inl _)) => none | o => o) :: jm_set r 0 v
  | o :: r, k + 2, v => o :: jm_set r (k + 1) v
def jm_set2 (L : jm_L) (k : Nat) (v : jm_V) : jm_L := (jm_set L k v).set (k + 1) none
def jm_loc : List jm_V → jm_L
  | [] => []
  | .inl z :: r => some (.inl z) :: jm_loc r
  | .inr (.inl z) :: r => some (.inr (.inl z)) :: none :: jm_loc r
  | .inr (.inr z) :: r => some (.inr (.inr z)) :: jm_loc r
def jm_cond (c : Jvm.ClassFile.Cond) (a b : Int) : Prop := match c with
  | .eq => a = b
  | .ne => ¬ a = b
  | .lt => a < b
  | .ge => b ≤ a
  | .gt => b < a
  | .le => a ≤ b
def jm_tot : List jm_S → Nat
  | [] => 0
  | s :: r => s.2.1 + jm_tot r
/-- a switch: the values with the places where it goes on, then the place for all others -/
def jm_sw (K : Nat → Prop) (a : Int) : List Int → Prop
  | [] => False
  | [t] => K t.toNat
  | v :: t :: r => (a = v → K t.toNat) ∧ (¬ a = v → jm_sw K a r)
/-- class c's field k: 0 an int, 1 a boolean, 2 a reference -/
def jm_ft : List (List Nat) := [[2, 0], [0, 0, 0, 0, 0], [2, 2, 2, 2, 2, 0], [2, 0, 0], [0, 0, 0, 0, 2, 2], [0, 2], [2, 0, 0, 0], [2, 2, 2], [2, 2, 2], [2, 2, 2, 2, 2, 2, 2, 2, 2, 2, 0, 0], [2, 1, 0, 2, 2, 2, 2, 2, 0, 0, 0, 2, 0, 0, 0, 0, 2, 2]]
def jm_fty (c k : Nat) : Nat := (jm_ft.getD c []).getD k 9
/-- what one instruction asks for, so that K may go on behind it. B: how many cells and slots there may be at most; Q: what holds at the end -/
def jm_sem (X : jm_X) (C : jm_C) (B : Nat × Nat) (Q : jm_Q) (K : jm_K) (e : jm_E) (i : Nat) (L : jm_L) (st : List jm_V) (h : jm_H) : Prop :=
  match e.2.1 with
  | .iconst n => K (i + 1) L (.inl n :: st) h
  | .bipush n => K (i + 1) L (.inl n :: st) h
  | .sipush n => K (i + 1) L (.inl n :: st) h
  | .ldc _ => match e.2.2.2 with
    | [v] => K (i + 1) L (.inl v :: st) h
    | _ => False
  | .ldc_w _ => match e.2.2.2 with
    | [v] => K (i + 1) L (.inl v :: st) h
    | _ => False
  | .ldc2_w _ => match e.2.2.2 with
    | [v] => K (i + 1) L (.inr (.inl v) :: st) h
    | _ => False
  | .lconst n => K (i + 1) L (.inr (.inl n.val) :: st) h
  | .iload k => match L[k]? with
    | some (some (.inl z)) => K (i + 1) L (.inl z :: st) h
    | _ => False
  | .iload_n k => match L[k.val]? with
    | some (some (.inl z)) => K (i + 1) L (.inl z :: st) h
    | _ => False
  | .lload k => match L[k]? with
    | some (some (.inr (.inl z))) => K (i + 1) L (.inr (.inl z) :: st) h
    | _ => False
  | .lload_n k => match L[k.val]? with
    | some (some (.inr (.inl z))) => K (i + 1) L (.inr (.inl z) :: st) h
    | _ => False
  | .aload k => match L[k]? with
    | some (some (.inr (.inr z))) => ¬ z = -1 ∧ K (i + 1) L (.inr (.inr z) :: st) h
    | _ => False
  | .aload_n k => match L[k.val]? with
    | some (some (.inr (.inr z))) => ¬ z = -1 ∧ K (i + 1) L (.inr (.inr z) :: st) h
    | _ => False
  | .istore k => match st with
    | .inl z :: r => K (i + 1) (jm_set L k (.inl z)) r h
    | _ => False
  | .istore_n k => match st with
    | .inl z :: r => K (i + 1) (jm_set L k.val (.inl z)) r h
    | _ => False
  | .lstore k => match st with
    | .inr (.inl z) :: r => K (i + 1) (jm_set2 L k (.inr (.inl z))) r h
    | _ => False
  | .lstore_n k => match st with
    | .inr (.inl z) :: r => K (i + 1) (jm_set2 L k.val (.inr (.inl z))) r h
    | _ => False
  | .astore k => match st with
    | .inr (.inr z) :: r => ¬ z = -1 ∧ K (i + 1) (jm_set L k (.inr (.inr z))) r h
    | _ => False
  | .astore_n k => match st with
    | .inr (.inr z) :: r => ¬ z = -1 ∧ K (i + 1) (jm_set L k.val (.inr (.inr z))) r h
    | _ => False
  | .iinc k n => match L[k]? with
    | some (some (.inl z)) => jm_r (z + n) ∧ K (i + 1) (jm_set L k (.inl (z + n))) st h
    | _ => False
  | .iadd => match st with
    | .inl b :: .inl a :: r => jm_r (a + b) ∧ K (i + 1) L (.inl (a + b) :: r) h
    | _ => False
  | .isub => match st with
    | .inl b :: .inl a :: r => jm_r (a - b) ∧ K (i + 1) L (.inl (a - b) :: r) h
    | _ => False
  | .imul => match st with
    | .inl b :: .inl a :: r => jm_r (a * b) ∧ K (i + 1) L (.inl (a * b) :: r) h
    | _ => False
  | .idiv => match st with
    | .inl b :: .inl a :: r => (0 ≤ a ∧ 0 < b) ∧ K (i + 1) L (.inl (a / b) :: r) h
    | _ => False
  | .irem => match st with
    | .inl b :: .inl a :: r => (0 ≤ a ∧ 0 < b) ∧ K (i + 1) L (.inl (a % b) :: r) h
    | _ => False
  | .ineg => match st with
    | .inl a :: r => jm_r (-a) ∧ K (i + 1) L (.inl (-a) :: r) h
    | _ => False
  | .iand => match st with
    | .inl b :: .inl a :: r => K (i + 1) L (.inl (jm_and a b) :: r) h
    | _ => False
  | .ior => match st with
    | .inl b :: .inl a :: r => K (i + 1) L (.inl (jm_or a b) :: r) h
    | _ => False
  | .ixor => match st with
    | .inl b :: .inl a :: r => K (i + 1) L (.inl (jm_xor a b) :: r) h
    | _ => False
  | .ishl => match st with
    | .inl b :: .inl a :: r => K (i + 1) L (.inl (jm_shl a b) :: r) h
    | _ => False
  | .ishr => match st with
    | .inl b :: .inl a :: r => K (i + 1) L (.inl (jm_shr a b) :: r) h
    | _ => False
  | .iushr => match st with
    | .inl b :: .inl a :: r => K (i + 1) L (.inl (jm_ushr a b) :: r) h
    | _ => False
  | .i2l => match st with
    | .inl a :: r => K (i + 1) L (.inr (.inl a) :: r) h
    | _ => False
  | .l2i => match st with
    | .inr (.inl a) :: r => jm_r a ∧ K (i + 1) L (.inl a :: r) h
    | _ => False
  | .i2b => match st with
    | .inl a :: r => K (i + 1) L (.inl (a.bmod 256) :: r) h
    | _ => False
  | .i2s => match st with
    | .inl a :: r => K (i + 1) L (.inl (a.bmod 65536) :: r) h
    | _ => False
  | .ladd => match st with
    | .inr (.inl b) :: .inr (.inl a) :: r => jm_rl (a + b) ∧ K (i + 1) L (.inr (.inl (a + b)) :: r) h
    | _ => False
  | .lmul => match st with
    | .inr (.inl b) :: .inr (.inl a) :: r => jm_rl (a * b) ∧ K (i + 1) L (.inr (.inl (a * b)) :: r) h
    | _ => False
  | .lrem => match st with
    | .inr (.inl b) :: .inr (.inl a) :: r => (0 ≤ a ∧ 0 < b) ∧ K (i + 1) L (.inr (.inl (a % b)) :: r) h
    | _ => False
  | .lcmp => match st with
    | .inr (.inl b) :: .inr (.inl a) :: r => K (i + 1) L (.inl (if a < b then -1 else if a = b then 0 else 1) :: r) h
    | _ => False
  | .dup => match st with
    | .inl a :: r => K (i + 1) L (.inl a :: .inl a :: r) h
    | .inr (.inr a) :: r => K (i + 1) L (.inr (.inr a) :: .inr (.inr a) :: r) h
    | _ => False
  | .dup2 => match st with
    | .inl a :: .inr (.inr b) :: r => K (i + 1) L (.inl a :: .inr (.inr b) :: .inl a :: .inr (.inr b) :: r) h
    | _ => False
  | .pop => match st with
    | .inl _ :: r => K (i + 1) L r h
    | _ => False
  | .ifCond c _ => match st, e.2.2.2 with
    | .inl a :: r, [t] => (jm_cond c a 0 → K t.toNat L r h) ∧ (¬ jm_cond c a 0 → K (i + 1) L r h)
    | _, _ => False
  | .if_icmp c _ => match st, e.2.2.2 with
    | .inl b :: .inl a :: r, [t] => (jm_cond c a b → K t.toNat L r h) ∧ (¬ jm_cond c a b → K (i + 1) L r h)
    | _, _ => False
  | .goto _ => match e.2.2.2 with
    | [t] => K t.toNat L st h
    | _ => False
  | .tableswitch _ _ _ _ => match st with
    | .inl a :: r => jm_sw (fun t => K t L r h) a e.2.2.2
    | _ => False
  | .lookupswitch _ _ => match st with
    | .inl a :: r => jm_sw (fun t => K t L r h) a e.2.2.2
    | _ => False
  | .getfield _ => match st, e.2.2.2 with
    | .inr (.inr z) :: r, [c, k, t] => match h.1[z.toNat]? with
      | some s => (0 ≤ z ∧ s.1 = 10 + c.toNat) ∧ K (i + 1) L ((if t = 2 then .inr (.inr (s.2.2.getD k.toNat (-1))) else .inl (h.2 z k)) :: r) h
      | none => False
    | _, _ => False
  | .putfield _ => match st, e.2.2.2 with
    | .inl v :: .inr (.inr z) :: r, [c, k, t] => match h.1[z.toNat]? with
      | some s => (0 ≤ z ∧ s.1 = 10 + c.toNat) ∧ (t = 0 ∨ (t = 1 ∧ (v = 0 ∨ v = 1))) ∧ K (i + 1) L r (h.1, jm_uc h.2 z (jm_u1 (h.2 z) k v))
      | none => False
    | .inr (.inr v) :: .inr (.inr z) :: r, [c, k, t] => match h.1[z.toNat]? with
      | some s => (0 ≤ z ∧ s.1 = 10 + c.toNat) ∧ (0 ≤ v ∧ t = 2 ∧ k.toNat < s.2.2.length) ∧ K (i + 1) L r (h.1.set z.toNat (s.1, s.2.1, s.2.2.set k.toNat v), h.2)
      | none => False
    | _, _ => False
  | .getstatic _ => match e.2.2.2 with
    | [k] => K (i + 1) L (.inr (.inr k) :: st) h
    | _ => False
  | .iaload => match st with
    | .inl j :: .inr (.inr z) :: r =>
      if 0 ≤ z then match h.1[z.toNat]? with
        | some s => s.1 = 0 ∧ (0 ≤ j ∧ j < s.2.1) ∧ K (i + 1) L (.inl (h.2 z j) :: r) h
        | none => False
      else (z ≤ -2 ∧ -7 ≤ z) ∧ (0 ≤ j ∧ j < (X (-2 - z).toNat).1) ∧ K (i + 1) L (.inl ((X (-2 - z).toNat).2 j) :: r) h
    | _ => False
  | .baload => match st with
    | .inl j :: .inr (.inr z) :: r => match h.1[z.toNat]? with
        | some s => (0 ≤ z ∧ s.1 = 1) ∧ (0 ≤ j ∧ j < s.2.1) ∧ K (i + 1) L (.inl (h.2 z j) :: r) h
        | none => False
    | _ => False
  | .aaload => match st with
    | .inl j :: .inr (.inr z) :: r => match h.1[z.toNat]? with
        | some s => (0 ≤ z ∧ 2 ≤ s.1 ∧ s.1 < 5) ∧ (0 ≤ j ∧ j < s.2.1) ∧ K (i + 1) L (.inr (.inr (h.2 z j)) :: r) h
        | none => False
    | _ => False
  | .iastore => match st with
    | .inl v :: .inl j :: .inr (.inr z) :: r => match h.1[z.toNat]? with
        | some s => (0 ≤ z ∧ s.1 = 0) ∧ (0 ≤ j ∧ j < s.2.1) ∧ K (i + 1) L r (h.1, jm_uc h.2 z (jm_u1 (h.2 z) j v))
        | none => False
    | _ => False
  | .bastore => match st with
    | .inl v :: .inl j :: .inr (.inr z) :: r => match h.1[z.toNat]? with
        | some s => (0 ≤ z ∧ s.1 = 1) ∧ (0 ≤ j ∧ j < s.2.1) ∧ (v = 0 ∨ v = 1) ∧ K (i + 1) L r (h.1, jm_uc h.2 z (jm_u1 (h.2 z) j v))
        | none => False
    | _ => False
  | .aastore => match st with
    | .inr (.inr v) :: .inl j :: .inr (.inr z) :: r => match h.1[z.toNat]?, h.1[v.toNat]? with
        | some s, some q => (0 ≤ z ∧ (0 ≤ v ∧ v ≤ 100000) ∧ ((s.1 = 2 ∧ q.1 = 15) ∨ (s.1 = 3 ∧ q.1 = 11) ∨ (s.1 = 4 ∧ q.1 = 14))) ∧ (0 ≤ j ∧ j < s.2.1) ∧ K (i + 1) L r (h.1, jm_uc h.2 z (jm_u1 (h.2 z) j v))
        | _, _ => False
    | _ => False
  | .arraylength => match st with
    | .inr (.inr z) :: r => (z ≤ -2 ∧ -7 ≤ z) ∧ K (i + 1) L (.inl (X (-2 - z).toNat).1 :: r) h
    | _ => False
  | .newarray ty => match st, e.2.2.2 with
    | .inl n :: r, [k] => ((k = 0 ∧ ty = .int) ∨ (k = 1 ∧ ty = .boolean)) ∧ (0 ≤ n ∧ n ≤ 100000) ∧ (h.1.length + 1 ≤ B.1 ∧ jm_tot h.1 + n.toNat ≤ B.2) ∧ K (i + 1) L (.inr (.inr h.1.length) :: r) (h.1 ++ [(k.toNat, n.toNat, [])], jm_uc h.2 h.1.length (fun _ => 0))
    | _, _ => False
  | .anewarray _ => match st, e.2.2.2 with
    | .inl n :: r, [k] => (2 ≤ k ∧ k < 5) ∧ (0 ≤ n ∧ n ≤ 100000) ∧ (h.1.length + 1 ≤ B.1 ∧ jm_tot h.1 + n.toNat ≤ B.2) ∧ K (i + 1) L (.inr (.inr h.1.length) :: r) (h.1 ++ [(k.toNat, n.toNat, [])], jm_uc h.2 h.1.length (fun _ => -1))
    | _, _ => False
  | .new _ => match e.2.2.2 with
    | [c, n] => (h.1.length + 1 ≤ B.1 ∧ jm_tot h.1 + n.toNat ≤ B.2) ∧ K (i + 1) L (.inr (.inr h.1.length) :: st) (h.1 ++ [(10 + c.toNat, n.toNat, List.replicate n.toNat (-1))], jm_uc h.2 h.1.length (fun _ => 0))
    | _ => False
  | .invokevirtual _ => match e.2.2.2 with
    | [n, a, c] => match st.drop a.toNat with
      | .inr (.inr z) :: r => match h.1[z.toNat]? with
        | some s => (0 ≤ z ∧ r.length ≤ 4 ∧ s.1 = 10 + c.toNat) ∧ C n.toNat (.inr (.inr z) :: (st.take a.toNat).reverse) h (fun v h' => K (i + 1) L (v ++ r) h')
        | none => False
      | _ => False
    | _ => False
  | .invokestatic _ => match e.2.2.2 with
    | [n, a] => (a.toNat ≤ st.length ∧ (st.drop a.toNat).length ≤ 4) ∧ C n.toNat (st.take a.toNat).reverse h (fun v h' => K (i + 1) L (v ++ st.drop a.toNat) h')
    | [_] => match st with
      | .inl b :: .inl a :: r => r.length ≤ 4 ∧ K (i + 1) L (.inl (min a b) :: r) h
      | _ => False
    | [] => match st with
      | .inl n :: .inl dp :: .inr (.inr d) :: .inl sp :: .inr (.inr q) :: r => match h.1[q.toNat]?, h.1[d.toNat]? with
        | some s, some t => (0 ≤ q ∧ 0 ≤ d ∧ s.1 = 0 ∧ t.1 = 0 ∧ r.length ≤ 4) ∧ ((0 ≤ sp ∧ 0 ≤ dp ∧ 0 ≤ n) ∧ sp + n ≤ s.2.1 ∧ dp + n ≤ t.2.1) ∧ K (i + 1) L r (h.1, jm_uc h.2 d (jm_cpy (h.2 q) (h.2 d) sp dp n))
        | _, _ => False
      | _ => False
    | _ => False
  | .invokespecial _ => match e.2.2.2 with
    | [n, mc, ms] => match st with
      | .inr (.inr z) :: r => (0 ≤ z ∧ r.length ≤ 4) ∧ (h.1.length + mc.toNat ≤ B.1 ∧ jm_tot h.1 + ms.toNat ≤ B.2) ∧ C n.toNat [.inr (.inr z)] h (fun v h' => K (i + 1) L (v ++ r) h')
      | _ => False
    | [] => match st with
      | .inr (.inr z) :: r => (0 ≤ z ∧ r.length ≤ 4) ∧ K (i + 1) L r h
      | _ => False
    | _ => False
  | .ireturn => match st, e.2.2.2 with
    | [.inl v], [t] => (t = 0 ∨ (t = 1 ∧ (v = 0 ∨ v = 1))) ∧ Q [.inl v] h
    | _, _ => False
  | .return_ => match st with
    | [] => Q [] h
    | _ => False
  | _ => False
/-- from place i on the program comes to an end with Q -/
def jm_WP (X : jm_X) (C : jm_C) (B : Nat × Nat) (P : List jm_E) (Q : jm_Q) (i : Nat) (L : jm_L) (st : List jm_V) (h : jm_H) : Prop :=
  ∀ K : jm_K, (∀ (i : Nat) (e : jm_E) (L : jm_L) (st : List jm_V) (h : jm_H), P[i]? = some e → jm_sem X C B Q K e i L st h → K i L st h) → K i L st h
end
section
/-! what one instruction asks for is no more for a wider K -/
def jm_mono (C : jm_C) : Prop := ∀ (n : Nat) (a : List jm_V) (h : jm_H) (Q Q' : jm_Q), (∀ v h, Q v h → Q' v h) → C n a h Q → C n a h Q'
theorem jm_sw_mono {K K' : Nat → Prop} (hK : ∀ t, K t → K' t) (a : Int) : ∀ l : List Int, jm_sw K a l → jm_sw K' a l
  | [], h => h
  | [_], h => hK _ h
  | _ :: _ :: r, h => ⟨fun q => hK _ (h.1 q), fun q => jm_sw_mono hK a r (h.2 q)⟩
set_option maxHeartbeats 2000000 in
theorem jm_sem_mono {X : jm_X} {C : jm_C} {B : Nat × Nat} {Q : jm_Q} {K K' : jm_K} (hC : jm_mono C) (hK : ∀ i L st h, K i L st h → K' i L st h) (e : jm_E) (i : Nat) (L : jm_L) (st : List jm_V) (h : jm_H) :
    jm_sem X C B Q K e i L st h → jm_sem X C B Q K' e i L st h := by
  obtain ⟨pc, ins, len, res⟩ := e
  cases ins
  case tableswitch =>
    simp only [jm_sem]
    split
    · exact jm_sw_mono (fun t => hK t _ _ _) _ _
    · exact id
  case lookupswitch =>
    simp only [jm_sem]
    split
    · exact jm_sw_mono (fun t => hK t _ _ _) _ _
    · exact id
  case invokevirtual =>
    simp only [jm_sem]
    split
    · split
      · split
        · exact fun q => ⟨q.1, hC _ _ _ _ _ (fun v h => hK _ _ _ _) q.2⟩
        · exact id
      · exact id
    · exact id
  case invokestatic =>
    simp only [jm_sem]
    split
    · exact fun q => ⟨q.1, hC _ _ _ _ _ (fun v h => hK _ _ _ _) q.2⟩
    · split
      · exact fun q => ⟨q.1, hK _ _ _ _ q.2⟩
      · exact id
    · split
      · split
        · exact fun q => ⟨q.1, q.2.1, hK _ _ _ _ q.2.2⟩
        · exact id
      · exact id
    · exact id
  case invokespecial =>
    simp only [jm_sem]
    split
    · split
      · exact fun q => ⟨q.1, q.2.1, hC _ _ _ _ _ (fun v h => hK _ _ _ _) q.2.2⟩
      · exact id
    · split
      · exact fun q => ⟨q.1, hK _ _ _ _ q.2⟩
      · exact id
    · exact id
  case ifCond =>
    simp only [jm_sem]
    split
    · exact fun q => ⟨fun z => hK _ _ _ _ (q.1 z), fun z => hK _ _ _ _ (q.2 z)⟩
    · exact id
  case if_icmp =>
    simp only [jm_sem]
    split
    · exact fun q => ⟨fun z => hK _ _ _ _ (q.1 z), fun z => hK _ _ _ _ (q.2 z)⟩
    · exact id
  all_goals
    simp only [jm_sem]
    first
      | exact id
      | exact hK _ _ _ _
      | (split <;> first | exact id | exact hK _ _ _ _ | exact fun q => ⟨q.1, hK _ _ _ _ q.2⟩ | exact fun q => ⟨q.1, q.2.1, hK _ _ _ _ q.2.2⟩ | exact fun q => ⟨q.1, q.2.1, q.2.2.1, hK _ _ _ _ q.2.2.2⟩)
      | (split <;> first | exact id | (split <;> first | exact id | exact fun q => ⟨q.1, hK _ _ _ _ q.2⟩ | exact fun q => ⟨q.1, q.2.1, hK _ _ _ _ q.2.2⟩ | exact fun q => ⟨q.1, q.2.1, q.2.2.1, hK _ _ _ _ q.2.2.2⟩))
      | (split <;> first | exact id | (split <;> first | exact id | exact fun q => ⟨q.1, hK _ _ _ _ q.2⟩ | exact fun q => ⟨q.1, q.2.1, hK _ _ _ _ q.2.2⟩ | (split <;> first | exact id | exact fun q => ⟨q.1, q.2.1, hK _ _ _ _ q.2.2⟩)))
theorem jm_sem_Q {X : jm_X} {C : jm_C} {B : Nat × Nat} {Q Q' : jm_Q} {K : jm_K} (hQ : ∀ v h, Q v h → Q' v h) (e : jm_E) (i : Nat) (L : jm_L) (st : List jm_V) (h : jm_H) :
    jm_sem X C B Q K e i L st h → jm_sem X C B Q' K e i L st h := by
  obtain ⟨pc, ins, len, res⟩ := e
  cases ins
  case ireturn =>
    simp only [jm_sem]
    split
    · exact fun q => ⟨q.1, hQ _ _ q.2⟩
    · exact id
  case return_ =>
    simp only [jm_sem]
    split
    · exact hQ _ _
    · exact id
  all_goals exact id
theorem jm_WP_Q {X : jm_X} {C : jm_C} {B : Nat × Nat} {P : List jm_E} {Q Q' : jm_Q} (hQ : ∀ v h, Q v h → Q' v h) {i : Nat} {L : jm_L} {st : List jm_V} {h : jm_H} (k : jm_WP X C B P Q i L st h) : jm_WP X C B P Q' i L st h :=
  fun K hK => k K (fun i e L st h he q => hK i e L st h he (jm_sem_Q hQ e i L st h q))
theorem jm_fold {X : jm_X} {C : jm_C} {B : Nat × Nat} {P : List jm_E} {Q : jm_Q} (hC : jm_mono C) {i : Nat} {e : jm_E} {L : jm_L} {st : List jm_V} {h : jm_H} (he : P[i]? = some e)
    (k : jm_sem X C B Q (jm_WP X C B P Q) e i L st h) : jm_WP X C B P Q i L st h :=
  fun K hK => hK i e L st h he (jm_sem_mono hC (fun i L st h q => q K hK) e i L st h k)
/-! numbers -/
theorem jm_ti {z : Int} (h : jm_r z) : (Int32.ofInt z).toInt = z := Int32.toInt_ofInt_of_le (by have := h.1; omega) (by have := h.2; omega)
theorem jm_tl {z : Int} (h : jm_rl z) : (Int64.ofInt z).toInt = z := Int64.toInt_ofInt_of_le (by have := h.1; omega) (by have := h.2; omega)
theorem jm_lt {a b : Int} (ha : jm_r a) (hb : jm_r b) : Int32.ofInt a < Int32.ofInt b ↔ a < b := by rw [Int32.lt_iff_toInt_lt, jm_ti ha, jm_ti hb]
theorem jm_le {a b : Int} (ha : jm_r a) (hb : jm_r b) : Int32.ofInt a ≤ Int32.ofInt b ↔ a ≤ b := by rw [Int32.le_iff_toInt_le, jm_ti ha, jm_ti hb]
theorem jm_eq {a b : Int} (ha : jm_r a) (hb : jm_r b) : Int32.ofInt a = Int32.ofInt b ↔ a = b := by rw [← Int32.toInt_inj, jm_ti ha, jm_ti hb]
theorem jm_r0 : jm_r 0 := ⟨by decide, by decide⟩
theorem jm_rI (x : Int32) : jm_r x.toInt := by
  have h1 := x.le_toInt
  have h2 := x.toInt_lt
  exact ⟨by omega, by omega⟩
theorem jm_nn {z : Int} (h : jm_r z) : (Int32.ofInt z).toNatClampNeg = z.toNat := Int32.toNatClampNeg_ofInt_of_le (by have := h.1; omega) (by have := h.2; omega)
theorem jm_n0 {z : Int} (h : jm_r z) (h0 : 0 ≤ z) : ¬ Int32.ofInt z < 0 := by
  intro q
  have h2 := (jm_lt h jm_r0).mp q
  omega
theorem jm_vin {z : Int} {n : Nat} (h : jm_r z) (h0 : 0 ≤ z) (h1 : z < n) : vp_in (Int32.ofInt z) n := by
  intro q
  rcases q with q | q
  · exact jm_n0 h h0 q
  · rw [jm_nn h] at q
    omega
theorem jm_div {a b : Int} (ha : jm_r a) (hb : jm_r b) (h0 : 0 ≤ a) (h1 : 0 < b) : Int32.ofInt a / Int32.ofInt b = Int32.ofInt (a / b) := by
  have h2 : 0 ≤ a / b := Int.ediv_nonneg h0 (by omega)
  have h3 : a / b ≤ a := Int.ediv_le_self b h0
  have hr : jm_r (a / b) := ⟨by omega, by have := ha.2; omega⟩
  rw [← Int32.toInt_inj, lg_idiv_nonneg (by rw [jm_ti ha]; exact h0) (by rw [jm_ti hb]; exact h1), jm_ti ha, jm_ti hb, jm_ti hr]
theorem jm_rdiv {a b : Int} (ha : jm_r a) (h0 : 0 ≤ a) (h1 : 0 < b) : jm_r (a / b) := by
  have h2 : 0 ≤ a / b := Int.ediv_nonneg h0 (by omega)
  have h3 : a / b ≤ a := Int.ediv_le_self b h0
  exact ⟨by omega, by have := ha.2; omega⟩
theorem jm_rmod {a b : Int} (hb : jm_r b) (h1 : 0 < b) : jm_r (a % b) := by
  have h2 : 0 ≤ a % b := Int.emod_nonneg a (by omega)
  have h3 : a % b < b := Int.emod_lt_of_pos a h1
  exact ⟨by omega, by have := hb.2; omega⟩
theorem jm_mod {a b : Int} (ha : jm_r a) (hb : jm_r b) (h0 : 0 ≤ a) (h1 : 0 < b) : Int32.ofInt a - Int32.ofInt a / Int32.ofInt b * Int32.ofInt b = Int32.ofInt (a % b) := by
  rw [← Int32.toInt_inj, rem_toInt, jm_ti ha, jm_ti hb, jm_ti (jm_rmod hb h1), Int.tmod_eq_emod_of_nonneg h0]
theorem jm_rlmod {a b : Int} (hb : jm_rl b) (h1 : 0 < b) : jm_rl (a % b) := by
  have h2 : 0 ≤ a % b := Int.emod_nonneg a (by omega)
  have h3 : a % b < b := Int.emod_lt_of_pos a h1
  exact ⟨by omega, by have := hb.2; omega⟩
theorem jm_rldiv {a b : Int} (ha : jm_rl a) (h0 : 0 ≤ a) (h1 : 0 < b) : jm_rl (a / b) := by
  have h2 : 0 ≤ a / b := Int.ediv_nonneg h0 (by omega)
  have h3 : a / b ≤ a := Int.ediv_le_self b h0
  exact ⟨by omega, by have := ha.2; omega⟩
theorem jm_lmod {a b : Int} (ha : jm_rl a) (hb : jm_rl b) (h0 : 0 ≤ a) (h1 : 0 < b) : Int64.ofInt a - Int64.ofInt a / Int64.ofInt b * Int64.ofInt b = Int64.ofInt (a % b) := by
  have e1 : Int64.ofInt a / Int64.ofInt b = Int64.ofInt (a / b) := by
    rw [← Int64.toInt_inj, lg_ldiv_nonneg (by rw [jm_tl ha]; exact h0) (by rw [jm_tl hb]; exact h1), jm_tl ha, jm_tl hb, jm_tl (jm_rldiv ha h0 h1)]
  rw [e1, ← Int64.ofInt_mul, ← Int64.ofInt_sub]
  congr 1
  have := Int.emod_add_mul_ediv a b
  rw [Int.mul_comm] at this
  omega
theorem jm_b {a : Int} (h : jm_r a) : (Int32.ofInt a).toInt8.toInt32 = Int32.ofInt (a.bmod 256) := by
  have h1 := lg_i2b_range (Int32.ofInt a)
  have h2 := lg_i2b_toInt (Int32.ofInt a)
  rw [jm_ti h] at h2
  rw [show (2 : Nat) ^ 8 = 256 from rfl] at h2
  rw [← Int32.toInt_inj, jm_ti ⟨by rw [← h2]; omega, by rw [← h2]; omega⟩, h2]
theorem jm_rb (a : Int) : jm_r (a.bmod 256) := by
  have h1 := @Int.le_bmod a 256 (by decide)
  have h2 := @Int.bmod_lt a 256 (by decide)
  exact ⟨by omega, by omega⟩
theorem jm_s {a : Int} (h : jm_r a) : (Int32.ofInt a).toInt16.toInt32 = Int32.ofInt (a.bmod 65536) := by
  have h1 := lg_i2s_range (Int32.ofInt a)
  have h2 := lg_i2s_toInt (Int32.ofInt a)
  rw [jm_ti h] at h2
  rw [show (2 : Nat) ^ 16 = 65536 from rfl] at h2
  rw [← Int32.toInt_inj, jm_ti ⟨by rw [← h2]; omega, by rw [← h2]; omega⟩, h2]
theorem jm_rs (a : Int) : jm_r (a.bmod 65536) := by
  have h1 := @Int.le_bmod a 65536 (by decide)
  have h2 := @Int.bmod_lt a 65536 (by decide)
  exact ⟨by omega, by omega⟩
theorem jm_i2l {a : Int} (h : jm_r a) : (Int32.ofInt a).toInt64 = Int64.ofInt a := by
  rw [← Int64.toInt_inj, Int32.toInt_toInt64, jm_ti h, jm_tl ⟨by have := h.1; omega, by have := h.2; omega⟩]
theorem jm_lc {a b : Int} (ha : jm_rl a) (hb : jm_rl b) : lg_cmp (Int64.ofInt a) (Int64.ofInt b) = Int32.ofInt (if a < b then -1 else if a = b then 0 else 1) := by
  unfold lg_cmp
  simp only [gt_iff_lt, Int64.lt_iff_toInt_lt, ← Int64.toInt_inj, jm_tl ha, jm_tl hb]
  by_cases h1 : a < b
  · have h2 : ¬ b < a := by omega
    have h3 : ¬ a = b := by omega
    rw [if_neg h2, if_neg h3, if_pos h1]; rfl
  · rw [if_neg h1]
    by_cases h3 : a = b
    · have h2 : ¬ b < a := by omega
      rw [if_neg h2, if_pos h3, if_pos h3]; rfl
    · have h2 : b < a := by omega
      rw [if_pos h2, if_neg h3]; rfl
theorem jm_rc (a b : Int) : jm_r (if a < b then -1 else if a = b then 0 else 1) := by
  split
  · exact ⟨by decide, by decide⟩
  · split <;> exact ⟨by decide, by decide⟩
end
section
/-! how the small machine's cells and values stand in the real heap -/
def jm_ro (ba : Nat) (ex : Nat → Nat) (z : Int) : Option Nat := if 0 ≤ z then some (ba + z.toNat) else if z = -1 then none else some (ex (-2 - z).toNat)
def jm_rv (ba : Nat) (ex : Nat → Nat) : jm_V → Value
  | .inl z => .int (Int32.ofInt z)
  | .inr (.inl z) => .long (Int64.ofInt z)
  | .inr (.inr z) => va_rf (jm_ro ba ex z)
def jm_ok : jm_V → Prop
  | .inl z => jm_r z
  | .inr (.inl z) => jm_rl z
  | .inr (.inr _) => True
theorem jm_rv_own {ba : Nat} {ex : Nat → Nat} {z : Int} (h : 0 ≤ z) : jm_rv ba ex (.inr (.inr z)) = .ref (ba + z.toNat) := by simp [jm_rv, jm_ro, h, va_rf]
theorem jm_rv_ext {ba : Nat} {ex : Nat → Nat} {z : Int} (h : z ≤ -2) : jm_rv ba ex (.inr (.inr z)) = .ref (ex (-2 - z).toNat) := by
  have h1 : ¬ 0 ≤ z := by omega
  have h2 : ¬ z = -1 := by omega
  simp [jm_rv, jm_ro, h1, h2, va_rf]
theorem jm_rv_ref {ba : Nat} {ex : Nat → Nat} {z : Int} (h : ¬ z = -1) : ∃ x, jm_rv ba ex (.inr (.inr z)) = .ref x := by
  by_cases h0 : 0 ≤ z
  · exact ⟨_, jm_rv_own h0⟩
  · exact ⟨_, jm_rv_ext (by omega)⟩
theorem jm_rv_cat (ba : Nat) (ex : Nat → Nat) (v : jm_V) : (jm_rv ba ex v).category ≤ 2 := by
  rcases lv_cat (jm_rv ba ex v) with h | h <;> omega
theorem jm_ref_cat (ba : Nat) (ex : Nat → Nat) (z : Int) : (jm_rv ba ex (.inr (.inr z))).category = 1 := by
  show (va_rf (jm_ro ba ex z)).category = 1
  cases jm_ro ba ex z <;> rfl
theorem jm_cat4 (ba : Nat) (ex : Nat → Nat) (r : List jm_V) (h : r.length ≤ 4) : ((r.map (jm_rv ba ex)).map fun v => v.category).sum ≤ 8 := by
  have key : ∀ r : List jm_V, ((r.map (jm_rv ba ex)).map fun v => v.category).sum ≤ 2 * r.length := by
    intro r
    induction r with
    | nil => simp
    | cons a l ih =>
      have := jm_rv_cat ba ex a
      simp only [List.map_cons, List.sum_cons, List.length_cons]
      omega
  have := key r
  omega
/-- the fields of an object of class c -/
def jm_fs (ba : Nat) (ex : Nat → Nat) (c i : Nat) (rf : List Int) (μ : jm_M) : List Value := (List.range (jm_N c)).map (fun k => if jm_fty c k = 2 then va_rf (jm_ro ba ex (rf.getD k (-1))) else .int (Int32.ofInt (μ i k)))
def jm_ent (aC : Nat → ClassId) (ba : Nat) (ex : Nat → Nat) (i : Nat) (s : jm_S) (μ : jm_M) : va_E :=
  if s.1 < 2 then .inl (aC s.1, (s.2.1, .inl (fun j => Int32.ofInt (μ i j))))
  else if s.1 < 10 then .inl (aC s.1, (s.2.1, .inr (.inr (.inr (.inr (fun j => jm_ro ba ex (μ i j)))))))
  else .inr (s.1 - 10, jm_fs ba ex (s.1 - 10) i s.2.2 μ)
def jm_ws (aC : Nat → ClassId) (ba : Nat) (ex : Nat → Nat) (h : jm_H) : va_W := (List.range h.1.length).map (fun i => (ba + i, jm_ent aC ba ex i (h.1.getD i (0, 0, [])) h.2))
theorem jm_ws_len (aC : Nat → ClassId) (ba : Nat) (ex : Nat → Nat) (h : jm_H) : (jm_ws aC ba ex h).length = h.1.length := by simp [jm_ws]
theorem jm_ws_at {aC : Nat → ClassId} {ba : Nat} {ex : Nat → Nat} {h : jm_H} {i : Nat} {s : jm_S} (hs : h.1[i]? = some s) : (jm_ws aC ba ex h)[i]? = some (ba + i, jm_ent aC ba ex i s h.2) := by
  obtain ⟨hi, rfl⟩ := List.getElem?_eq_some_iff.mp hs
  simp [jm_ws, hi]
theorem jm_ws_inv {aC : Nat → ClassId} {ba : Nat} {ex : Nat → Nat} {h : jm_H} {i : Nat} {q : Nat × va_E} (hq : (jm_ws aC ba ex h)[i]? = some q) : ∃ s, h.1[i]? = some s ∧ q = (ba + i, jm_ent aC ba ex i s h.2) := by
  have hi : i < h.1.length := by
    have := (List.getElem?_eq_some_iff.mp hq).1
    rw [jm_ws_len] at this
    exact this
  have hs : h.1[i]? = some h.1[i] := List.getElem?_eq_getElem hi
  rw [jm_ws_at hs] at hq
  exact ⟨_, hs, (Option.some.inj hq).symm⟩
theorem jm_ws_D (aC : Nat → ClassId) (ba : Nat) (ex : Nat → Nat) (h : jm_H) : va_D (fun q => ba ≤ q) (jm_ws aC ba ex h) := by
  refine ⟨fun i j p q hp hq hpq => ?_, fun k q hq => ?_⟩
  · obtain ⟨_, -, rfl⟩ := jm_ws_inv hp
    obtain ⟨_, -, rfl⟩ := jm_ws_inv hq
    have h1 : ba + i = ba + j := hpq
    omega
  · obtain ⟨_, -, rfl⟩ := jm_ws_inv hq
    exact Nat.le_add_right ba k
/-- one cell is written -/
theorem jm_ws_set {aC : Nat → ClassId} {ba : Nat} {ex : Nat → Nat} {h h' : jm_H} {i : Nat} {e : va_E} {s' : jm_S} (hl : h'.1.length = h.1.length) (hs : h'.1[i]? = some s') (he : e = jm_ent aC ba ex i s' h'.2) (ho : ∀ j, j ≠ i → h'.1[j]? = h.1[j]? ∧ h'.2 j = h.2 j) :
    (jm_ws aC ba ex h).set i (ba + i, e) = jm_ws aC ba ex h' := by
  apply List.ext_getElem?
  intro j
  by_cases hj : j = i
  · subst hj
    have hlt : j < (jm_ws aC ba ex h).length := by
      rw [jm_ws_len, ← hl]
      exact (List.getElem?_eq_some_iff.mp hs).1
    rw [List.getElem?_set_self hlt, jm_ws_at hs, he]
  · rw [List.getElem?_set_ne (Ne.symm hj)]
    obtain ⟨o1, o2⟩ := ho j hj
    cases hc : h.1[j]? with
    | some s =>
      rw [jm_ws_at hc, jm_ws_at (o1.trans hc)]
      simp only [jm_ent, jm_fs, o2]
    | none =>
      have h1 : h.1.length ≤ j := by simpa using hc
      rw [List.getElem?_eq_none (by rw [jm_ws_len]; exact h1), List.getElem?_eq_none (by rw [jm_ws_len, hl]; exact h1)]
/-- a cell is made -/
theorem jm_ws_new {aC : Nat → ClassId} {ba : Nat} {ex : Nat → Nat} {h : jm_H} {s' : jm_S} {f : Int → Int} : jm_ws aC ba ex h ++ [(ba + h.1.length, jm_ent aC ba ex h.1.length s' (jm_uc h.2 h.1.length f))] = jm_ws aC ba ex (h.1 ++ [s'], jm_uc h.2 h.1.length f) := by
  apply List.ext_getElem?
  intro j
  by_cases hj : j < h.1.length
  · have hc : h.1[j]? = some h.1[j] := List.getElem?_eq_getElem hj
    rw [List.getElem?_append_left (by rw [jm_ws_len]; exact hj), jm_ws_at hc, jm_ws_at (h := (h.1 ++ [s'], jm_uc h.2 h.1.length f)) (s := h.1[j]) (by rw [List.getElem?_append_left hj]; exact hc)]
    have hne : ¬ (j : Int) = (h.1.length : Int) := by omega
    simp only [jm_ent, jm_fs, jm_uc, if_neg hne]
  · rw [List.getElem?_append_right (by rw [jm_ws_len]; omega), jm_ws_len]
    by_cases he : j = h.1.length
    · subst he
      rw [Nat.sub_self, jm_ws_at (h := (h.1 ++ [s'], jm_uc h.2 h.1.length f)) (s := s') (by simp)]
      rfl
    · rw [List.getElem?_eq_none (by simp; omega), List.getElem?_eq_none (by rw [jm_ws_len]; simp; omega)]
def jm_tys (aC : Nat → ClassId) : List (ClassId × FieldType) := [(aC 0, .int), (aC 1, .boolean), (aC 2, .object "MatNations$Mat"), (aC 3, .object "MatNations$Comer"), (aC 4, .object "MatNations$House")]
/-- what the tables say, and which number is which class's -/
def jm_Env (D : va_G) (aC : Nat → ClassId) (U : State) : Prop :=
  (∀ w ∈ lw_tbl, goodWord w = true → ∀ a, w.before a U = true) ∧ (∀ q ∈ jm_nl, va_Nw (jm_nlw q) U) ∧ (va_AO "MatNations$Mat" U ∧ va_AO "MatNations$Comer" U ∧ va_AO "MatNations$House" U) ∧ va_K D vwCl (jm_tys aC) U
theorem jm_Env.warm {D : va_G} {aC : Nat → ClassId} {s U : State} (h : jm_Env D aC s) (hW : s.WarmedH U.vm) : jm_Env D aC U := by
  obtain ⟨h1, h2, ⟨h3, h4, h5⟩, h6⟩ := h
  exact ⟨fun w hw hg a => word_at hW (good_of_word hg) (h1 w hw hg #[]), fun q hq => va_Nw.warmM hW (h2 q hq), ⟨h3.moved hW.alike, h4.moved hW.alike, h5.moved hW.alike⟩, h6.moved hW.alike⟩
/-- the arrays of the start: the script, and the tables of the classes -/
def jm_Ext (ba : Nat) (ex : Nat → Nat) (X : jm_X) (U : State) (H : Heap) : Prop :=
  (∀ k, k < 6 → va_T .int (ex k) (X k).1 (fun j => .int (Int32.ofInt ((X k).2 j))) (fun q => ba ≤ q) U H ∧ (X k).1 < 2147483648 ∧ ∀ j, jm_r ((X k).2 j)) ∧
  ∀ k q, jm_sf[k]? = some q → va_Z q.1 q.2.1 q.2.2 (.ref (ex (k + 1))) (fun q => ba ≤ q) U H
theorem jm_Ext.move {ba : Nat} {ex : Nat → Nat} {X : jm_X} {s U : State} {H H1 : Heap} (h : jm_Ext ba ex X s H) (hv : s.vm.Alike U.vm) (hk : ∀ a : Nat, a < H.size → ¬ (fun q => ba ≤ q) a → H1[a]? = H[a]?) : jm_Ext ba ex X U H1 :=
  ⟨fun k hk6 => ⟨((h.1 k hk6).1.moved hv).kept hk, (h.1 k hk6).2⟩, fun k q hq => ((h.2 k q hq).moved hv).kept hk⟩
def jm_Hp (D : va_G) (aC : Nat → ClassId) (ba : Nat) (ex : Nat → Nat) (h : jm_H) (H : Heap) : Prop := va_P D vwCl (jm_ws aC ba ex h) H ∧ H.size = ba + h.1.length ∧ ∀ i j, jm_r (h.2 i j)
/-- the locals -/
def jm_LR (ba : Nat) (ex : Nat → Nat) (ls : Array Slot) (nL : Nat) (L : jm_L) : Prop := ls.size = nL ∧ lv_wf ls ∧ ∀ (k : Nat) (v : jm_V), L[k]? = some (some v) → ls[k]? = some (.val (jm_rv ba ex v)) ∧ jm_ok v
def jm_as (ba : Nat) (ex : Nat → Nat) (L : jm_L) : List (Nat × Value) := (List.range L.length).filterMap (fun k => match L[k]? with | some (some v) => some (k, jm_rv ba ex v) | _ => none)
theorem jm_as_mem {ba : Nat} {ex : Nat → Nat} {L : jm_L} {q : Nat × Value} : q ∈ jm_as ba ex L ↔ ∃ v, L[q.1]? = some (some v) ∧ q.2 = jm_rv ba ex v := by
  unfold jm_as
  rw [List.mem_filterMap]
  constructor
  · rintro ⟨k, -, hk⟩
    split at hk
    · rename_i v hv
      cases hk
      exact ⟨v, hv, rfl⟩
    · cases hk
  · rintro ⟨v, hv, hq⟩
    refine ⟨q.1, List.mem_range.mpr (List.getElem?_eq_some_iff.mp hv).1, ?_⟩
    rw [hv]
    show some (q.1, jm_rv ba ex v) = some q
    rw [← hq]
theorem jm_LR.has {ba : Nat} {ex : Nat → Nat} {ls : Array Slot} {nL : Nat} {L : jm_L} (h : jm_LR ba ex ls nL L) : lv_has ls nL (jm_as ba ex L) := by
  refine ⟨h.1, h.2.1, fun q hq => ?_⟩
  obtain ⟨v, hv, e⟩ := jm_as_mem.mp hq
  rw [e]
  exact (h.2.2 q.1 v hv).1
theorem jm_set_get : ∀ (L : jm_L) (i : Nat) (v : jm_V) (k : Nat) (w : jm_V), (jm_set L i v)[k]? = some (some w) → (k = i ∧ w = v) ∨ (k ≠ i ∧ L[k]? = some (some w) ∧ ¬ (k + 1 = i ∧ ∃ z, w = .inr (.inl z)))
  | [], i, v, k, w, h => by simp [jm_set] at h
  | o :: r, 0, v, k, w, h => by
    cases k with
    | zero => left; simp [jm_set] at h; exact ⟨rfl, h.symm⟩
    | succ k => right; simp only [jm_set, List.getElem?_cons_succ] at h; exact ⟨by omega, by simpa using h, by omega⟩
  | o :: r, 1, v, k, w, h => by
    cases k with
    | zero =>
      right
      simp only [jm_set, List.getElem?_cons_zero] at h
      refine ⟨by omega, ?_, ?_⟩
      · split at h
        · cases h
        · simpa using h
      · rintro ⟨-, z, rfl⟩
        split at h
        · cases h
        · rename_i hn
          cases Option.some.inj h
          exact hn z rfl
    | succ k =>
      simp only [jm_set, List.getElem?_cons_succ] at h
      rcases jm_set_get r 0 v k w h with ⟨a, b⟩ | ⟨a, b, c⟩
      · left; exact ⟨by omega, b⟩
      · right; exact ⟨by omega, by simpa using b, by omega⟩
  | o :: r, i + 2, v, k, w, h => by
    cases k with
    | zero => right; simp only [jm_set, List.getElem?_cons_zero] at h; exact ⟨by omega, by simpa using h, by omega⟩
    | succ k =>
      simp only [jm_set, List.getElem?_cons_succ] at h
      rcases jm_set_get r (i + 1) v k w h with ⟨a, b⟩ | ⟨a, b, c⟩
      · left; exact ⟨by omega, b⟩
      · right; exact ⟨by omega, by simpa using b, fun q => c ⟨by omega, q.2⟩⟩
theorem jm_cat2 {ba : Nat} {ex : Nat → Nat} {v : jm_V} (h : (jm_rv ba ex v).category = 2) : ∃ z, v = .inr (.inl z) := by
  rcases v with z | z | z
  · cases h
  · exact ⟨z, rfl⟩
  · rw [jm_ref_cat] at h
    cases h
theorem jm_LR.store {ba : Nat} {ex : Nat → Nat} {ls' : Array Slot} {nL i : Nat} {L : jm_L} {v : jm_V} (hv : jm_ok v) (hL : ∀ (k : Nat) (v : jm_V), L[k]? = some (some v) → jm_ok v)
    (h : lv_has ls' nL ((i, jm_rv ba ex v) :: (jm_as ba ex L).filter (fun q => !(q.1 == i) && !(q.1 + 1 == i && q.2.category == 2)))) : jm_LR ba ex ls' nL (jm_set L i v) := by
  refine ⟨h.1, h.2.1, fun k w hw => ?_⟩
  rcases jm_set_get L i v k w hw with ⟨rfl, rfl⟩ | ⟨a, b, c⟩
  · exact ⟨h.2.2 (k, jm_rv ba ex w) List.mem_cons_self, hv⟩
  · refine ⟨h.2.2 (k, jm_rv ba ex w) (List.mem_cons_of_mem _ (List.mem_filter.mpr ⟨jm_as_mem.mpr ⟨w, b, rfl⟩, ?_⟩)), hL k w b⟩
    simp only [Bool.and_eq_true, Bool.not_eq_true', beq_eq_false_iff_ne, ne_eq, Bool.and_eq_false_iff]
    refine ⟨a, ?_⟩
    by_cases hk : k + 1 = i
    · exact Or.inr fun q => c ⟨hk, jm_cat2 q⟩
    · exact Or.inl hk
theorem jm_LR.store2 {ba : Nat} {ex : Nat → Nat} {ls' : Array Slot} {nL i : Nat} {L : jm_L} {v : jm_V} (hv : jm_ok v) (hL : ∀ (k : Nat) (v : jm_V), L[k]? = some (some v) → jm_ok v)
    (h : lv_has ls' nL ((i, jm_rv ba ex v) :: (jm_as ba ex L).filter (fun q => !(q.1 == i) && (!(q.1 == i + 1) && !(q.1 + 1 == i && q.2.category == 2))))) : jm_LR ba ex ls' nL (jm_set2 L i v) := by
  refine ⟨h.1, h.2.1, fun k w hw => ?_⟩
  unfold jm_set2 at hw
  have hk1 : k ≠ i + 1 := by
    intro q
    subst q
    by_cases hlt : i + 1 < (jm_set L i v).length
    · rw [List.getElem?_set_self hlt] at hw; cases hw
    · rw [List.getElem?_eq_none (by simp; omega)] at hw; cases hw
  rw [List.getElem?_set_ne (Ne.symm hk1)] at hw
  rcases jm_set_get L i v k w hw with ⟨rfl, rfl⟩ | ⟨a, b, c⟩
  · exact ⟨h.2.2 (k, jm_rv ba ex w) List.mem_cons_self, hv⟩
  · refine ⟨h.2.2 (k, jm_rv ba ex w) (List.mem_cons_of_mem _ (List.mem_filter.mpr ⟨jm_as_mem.mpr ⟨w, b, rfl⟩, ?_⟩)), hL k w b⟩
    simp only [Bool.and_eq_true, Bool.not_eq_true', beq_eq_false_iff_ne, ne_eq, Bool.and_eq_false_iff]
    refine ⟨a, hk1, ?_⟩
    by_cases hk : k + 1 = i
    · exact Or.inr fun q => c ⟨hk, jm_cat2 q⟩
    · exact Or.inl hk
theorem jm_loc_entry (ba : Nat) (ex : Nat → Nat) : ∀ (vs : List jm_V) (n k : Nat) (v : jm_V), (jm_loc vs)[k]? = some (some v) → (n + k, jm_rv ba ex v) ∈ lv_args n (vs.map (jm_rv ba ex)) ∧ v ∈ vs
  | [], n, k, v, h => by simp [jm_loc] at h
  | .inl z :: r, n, k, v, h => by
    cases k with
    | zero => simp [jm_loc] at h; subst h; exact ⟨by simp [lv_args, jm_rv], by simp⟩
    | succ k =>
      simp only [jm_loc, List.getElem?_cons_succ] at h
      obtain ⟨a, b⟩ := jm_loc_entry ba ex r (n + 1) k v h
      refine ⟨?_, List.mem_cons_of_mem _ b⟩
      have e : n + (k + 1) = n + 1 + k := by omega
      rw [e]
      simp only [List.map_cons, lv_args, jm_rv, Value.category]
      exact List.mem_cons_of_mem _ a
  | .inr (.inl z) :: r, n, k, v, h => by
    match k, h with
    | 0, h => simp [jm_loc] at h; subst h; exact ⟨by simp [lv_args, jm_rv], by simp⟩
    | 1, h => simp [jm_loc] at h
    | k + 2, h =>
      simp only [jm_loc, List.getElem?_cons_succ] at h
      obtain ⟨a, b⟩ := jm_loc_entry ba ex r (n + 2) k v h
      refine ⟨?_, List.mem_cons_of_mem _ b⟩
      have e : n + (k + 2) = n + 2 + k := by omega
      rw [e]
      simp only [List.map_cons, lv_args, jm_rv, Value.category]
      exact List.mem_cons_of_mem _ a
  | .inr (.inr z) :: r, n, k, v, h => by
    cases k with
    | zero => simp [jm_loc] at h; subst h; exact ⟨by simp [lv_args], by simp⟩
    | succ k =>
      simp only [jm_loc, List.getElem?_cons_succ] at h
      obtain ⟨a, b⟩ := jm_loc_entry ba ex r (n + 1) k v h
      refine ⟨?_, List.mem_cons_of_mem _ b⟩
      have e : n + (k + 1) = n + 1 + k := by omega
      rw [e]
      have hc := jm_ref_cat ba ex z
      simp only [List.map_cons, lv_args, hc]
      exact List.mem_cons_of_mem _ a
theorem jm_sl_cons (v : Value) (r : List Value) : lg_sl (v :: r) = (if v.category = 2 then [.val v, .second] else [.val v]) ++ lg_sl r := by simp [lg_sl]
theorem jm_loc_len (ba : Nat) (ex : Nat → Nat) : ∀ vs : List jm_V, (lg_sl (vs.map (jm_rv ba ex))).length = (jm_loc vs).length
  | [] => rfl
  | .inl z :: r => by
    have := jm_loc_len ba ex r
    rw [List.map_cons, jm_sl_cons, List.length_append, this, if_neg (by simp [jm_rv, Value.category])]
    simp only [jm_loc, List.length_cons, List.length_nil]
    omega
  | .inr (.inl z) :: r => by
    have := jm_loc_len ba ex r
    rw [List.map_cons, jm_sl_cons, List.length_append, this, if_pos (by simp [jm_rv, Value.category])]
    simp only [jm_loc, List.length_cons, List.length_nil]
    omega
  | .inr (.inr z) :: r => by
    have := jm_loc_len ba ex r
    have hc := jm_ref_cat ba ex z
    rw [List.map_cons, jm_sl_cons, List.length_append, this, if_neg (by rw [hc]; decide)]
    simp only [jm_loc, List.length_cons, List.length_nil]
    omega
end
section
/-! what the tables give -/
abbrev jm_Ts : List Cond := lw_tbl.filter goodWord
theorem jm_uw_0 : jm_hw (u_ws RX0 TX0 2) [315, 317] = true := by decide +kernel
theorem jm_ug_0 : (u_ws RX0 TX0 2).all goodWord = true := by decide +kernel
theorem jm_ut_0 : ∀ k, k < 2 → ((jm_fty 0 k = 0 ∧ tyX0 k = .int) ∨ (jm_fty 0 k = 1 ∧ tyX0 k = .boolean) ∨ (jm_fty 0 k = 2 ∧ (match tyX0 k with | .object _ => true | .array _ => true | _ => false) = true)) ∧ (TX0 k).1 = RX0 := by decide +kernel
theorem jm_ui_0 : jm_hw [.instantiable RX0 2, .initialized RX0] [308, 79] = true := by decide +kernel
theorem jm_uw_1 : jm_hw (u_ws RX1 TX1 5) [188, 190, 192, 194, 196] = true := by decide +kernel
theorem jm_ug_1 : (u_ws RX1 TX1 5).all goodWord = true := by decide +kernel
theorem jm_ut_1 : ∀ k, k < 5 → ((jm_fty 1 k = 0 ∧ tyX1 k = .int) ∨ (jm_fty 1 k = 1 ∧ tyX1 k = .boolean) ∨ (jm_fty 1 k = 2 ∧ (match tyX1 k with | .object _ => true | .array _ => true | _ => false) = true)) ∧ (TX1 k).1 = RX1 := by decide +kernel
theorem jm_ui_1 : jm_hw [.instantiable RX1 5, .initialized RX1] [158, 75] = true := by decide +kernel
theorem jm_uw_2 : jm_hw (u_ws RX2 TX2 6) [294, 296, 298, 300, 302, 304] = true := by decide +kernel
theorem jm_ug_2 : (u_ws RX2 TX2 6).all goodWord = true := by decide +kernel
theorem jm_ut_2 : ∀ k, k < 6 → ((jm_fty 2 k = 0 ∧ tyX2 k = .int) ∨ (jm_fty 2 k = 1 ∧ tyX2 k = .boolean) ∨ (jm_fty 2 k = 2 ∧ (match tyX2 k with | .object _ => true | .array _ => true | _ => false) = true)) ∧ (TX2 k).1 = RX2 := by decide +kernel
theorem jm_ui_2 : jm_hw [.instantiable RX2 6, .initialized RX2] [279, 78] = true := by decide +kernel
theorem jm_uw_3 : jm_hw (u_ws RX3 TX3 3) [249, 251, 253] = true := by decide +kernel
theorem jm_ug_3 : (u_ws RX3 TX3 3).all goodWord = true := by decide +kernel
theorem jm_ut_3 : ∀ k, k < 3 → ((jm_fty 3 k = 0 ∧ tyX3 k = .int) ∨ (jm_fty 3 k = 1 ∧ tyX3 k = .boolean) ∨ (jm_fty 3 k = 2 ∧ (match tyX3 k with | .object _ => true | .array _ => true | _ => false) = true)) ∧ (TX3 k).1 = RX3 := by decide +kernel
theorem jm_ui_3 : jm_hw [.instantiable RX3 3, .initialized RX3] [241, 76] = true := by decide +kernel
theorem jm_uw_4 : jm_hw (u_ws RX4 TX4 6) [226, 228, 230, 232, 234, 236] = true := by decide +kernel
theorem jm_ug_4 : (u_ws RX4 TX4 6).all goodWord = true := by decide +kernel
theorem jm_ut_4 : ∀ k, k < 6 → ((jm_fty 4 k = 0 ∧ tyX4 k = .int) ∨ (jm_fty 4 k = 1 ∧ tyX4 k = .boolean) ∨ (jm_fty 4 k = 2 ∧ (match tyX4 k with | .object _ => true | .array _ => true | _ => false) = true)) ∧ (TX4 k).1 = RX4 := by decide +kernel
theorem jm_ui_4 : jm_hw [.instantiable RX4 6, .initialized RX4] [129, 73] = true := by decide +kernel
theorem jm_uw_5 : jm_hw (u_ws RX5 TX5 2) [153, 155] = true := by decide +kernel
theorem jm_ug_5 : (u_ws RX5 TX5 2).all goodWord = true := by decide +kernel
theorem jm_ut_5 : ∀ k, k < 2 → ((jm_fty 5 k = 0 ∧ tyX5 k = .int) ∨ (jm_fty 5 k = 1 ∧ tyX5 k = .boolean) ∨ (jm_fty 5 k = 2 ∧ (match tyX5 k with | .object _ => true | .array _ => true | _ => false) = true)) ∧ (TX5 k).1 = RX5 := by decide +kernel
theorem jm_ui_5 : jm_hw [.instantiable RX5 2, .initialized RX5] [138, 74] = true := by decide +kernel
theorem jm_uw_6 : jm_hw (u_ws RX6 TX6 4) [119, 121, 123, 125] = true := by decide +kernel
theorem jm_ug_6 : (u_ws RX6 TX6 4).all goodWord = true := by decide +kernel
theorem jm_ut_6 : ∀ k, k < 4 → ((jm_fty 6 k = 0 ∧ tyX6 k = .int) ∨ (jm_fty 6 k = 1 ∧ tyX6 k = .boolean) ∨ (jm_fty 6 k = 2 ∧ (match tyX6 k with | .object _ => true | .array _ => true | _ => false) = true)) ∧ (TX6 k).1 = RX6 := by decide +kernel
theorem jm_ui_6 : jm_hw [.instantiable RX6 4, .initialized RX6] [110, 72] = true := by decide +kernel
theorem jm_uw_7 : jm_hw (u_ws RX7 TX7 3) [101, 103, 105] = true := by decide +kernel
theorem jm_ug_7 : (u_ws RX7 TX7 3).all goodWord = true := by decide +kernel
theorem jm_ut_7 : ∀ k, k < 3 → ((jm_fty 7 k = 0 ∧ tyX7 k = .int) ∨ (jm_fty 7 k = 1 ∧ tyX7 k = .boolean) ∨ (jm_fty 7 k = 2 ∧ (match tyX7 k with | .object _ => true | .array _ => true | _ => false) = true)) ∧ (TX7 k).1 = RX7 := by decide +kernel
theorem jm_ui_7 : jm_hw [.instantiable RX7 3, .initialized RX7] [93, 71] = true := by decide +kernel
theorem jm_uw_8 : jm_hw (u_ws RX8 TX8 3) [271, 273, 275] = true := by decide +kernel
theorem jm_ug_8 : (u_ws RX8 TX8 3).all goodWord = true := by decide +kernel
theorem jm_ut_8 : ∀ k, k < 3 → ((jm_fty 8 k = 0 ∧ tyX8 k = .int) ∨ (jm_fty 8 k = 1 ∧ tyX8 k = .boolean) ∨ (jm_fty 8 k = 2 ∧ (match tyX8 k with | .object _ => true | .array _ => true | _ => false) = true)) ∧ (TX8 k).1 = RX8 := by decide +kernel
theorem jm_ui_8 : jm_hw [.instantiable RX8 3, .initialized RX8] [258, 77] = true := by decide +kernel
theorem jm_uw_9 : jm_hw (u_ws RX9 TX9 12) [332, 334, 336, 338, 340, 342, 344, 346, 348, 350, 352, 354] = true := by decide +kernel
theorem jm_ug_9 : (u_ws RX9 TX9 12).all goodWord = true := by decide +kernel
theorem jm_ut_9 : ∀ k, k < 12 → ((jm_fty 9 k = 0 ∧ tyX9 k = .int) ∨ (jm_fty 9 k = 1 ∧ tyX9 k = .boolean) ∨ (jm_fty 9 k = 2 ∧ (match tyX9 k with | .object _ => true | .array _ => true | _ => false) = true)) ∧ (TX9 k).1 = RX9 := by decide +kernel
theorem jm_ui_9 : jm_hw [.instantiable RX9 12, .initialized RX9] [85, 70] = true := by decide +kernel
theorem jm_uw_10 : jm_hw (u_ws RX10 TX10 18) [922, 924, 926, 928, 930, 932, 934, 936, 938, 940, 942, 944, 946, 948, 950, 952, 954, 956] = true := by decide +kernel
theorem jm_ug_10 : (u_ws RX10 TX10 18).all goodWord = true := by decide +kernel
theorem jm_ut_10 : ∀ k, k < 18 → ((jm_fty 10 k = 0 ∧ tyX10 k = .int) ∨ (jm_fty 10 k = 1 ∧ tyX10 k = .boolean) ∨ (jm_fty 10 k = 2 ∧ (match tyX10 k with | .object _ => true | .array _ => true | _ => false) = true)) ∧ (TX10 k).1 = RX10 := by decide +kernel
theorem jm_ui_10 : jm_hw [.instantiable RX10 18, .initialized RX10] [899, 80] = true := by decide +kernel
/-- all that is known of class number c -/
def jm_CK (c : Nat) (q : vw_C) : Prop := ∃ ty : Nat → FieldType, (∀ k, k < q.2.2 → parseFieldDescriptor (q.2.1 k).2.2.1 = some (ty k)) ∧ (∀ a, a < q.2.2 → ∀ b, b < q.2.2 → a ≠ b → (q.2.1 a).2.1 ≠ (q.2.1 b).2.1) ∧ (∀ w ∈ u_ws q.1 q.2.1 q.2.2, w ∈ jm_Ts) ∧ (∀ w ∈ [Cond.instantiable q.1 q.2.2, Cond.initialized q.1], w ∈ jm_Ts) ∧
  (∀ k, k < q.2.2 → ((jm_fty c k = 0 ∧ ty k = .int) ∨ (jm_fty c k = 1 ∧ ty k = .boolean) ∨ (jm_fty c k = 2 ∧ (match ty k with | .object _ => true | .array _ => true | _ => false) = true)) ∧ (q.2.1 k).1 = q.1) ∧ q.1 = jm_CN c
theorem jm_in_good {ws : List Cond} {ps : List Nat} (h : jm_hw ws ps = true) (hg : ws.all goodWord = true) : ∀ w ∈ ws, w ∈ jm_Ts := fun w hw => List.mem_filter.mpr ⟨jm_hw_in h w hw, List.all_eq_true.mp hg w hw⟩
theorem jm_ck_0 : jm_CK 0 (RX0, TX0, 2) := ⟨tyX0, tyX0_ok, nmX0, jm_in_good jm_uw_0 jm_ug_0, jm_in_good jm_ui_0 (by decide +kernel), jm_ut_0, by decide +kernel⟩
theorem jm_ck_1 : jm_CK 1 (RX1, TX1, 5) := ⟨tyX1, tyX1_ok, nmX1, jm_in_good jm_uw_1 jm_ug_1, jm_in_good jm_ui_1 (by decide +kernel), jm_ut_1, by decide +kernel⟩
theorem jm_ck_2 : jm_CK 2 (RX2, TX2, 6) := ⟨tyX2, tyX2_ok, nmX2, jm_in_good jm_uw_2 jm_ug_2, jm_in_good jm_ui_2 (by decide +kernel), jm_ut_2, by decide +kernel⟩
theorem jm_ck_3 : jm_CK 3 (RX3, TX3, 3) := ⟨tyX3, tyX3_ok, nmX3, jm_in_good jm_uw_3 jm_ug_3, jm_in_good jm_ui_3 (by decide +kernel), jm_ut_3, by decide +kernel⟩
theorem jm_ck_4 : jm_CK 4 (RX4, TX4, 6) := ⟨tyX4, tyX4_ok, nmX4, jm_in_good jm_uw_4 jm_ug_4, jm_in_good jm_ui_4 (by decide +kernel), jm_ut_4, by decide +kernel⟩
theorem jm_ck_5 : jm_CK 5 (RX5, TX5, 2) := ⟨tyX5, tyX5_ok, nmX5, jm_in_good jm_uw_5 jm_ug_5, jm_in_good jm_ui_5 (by decide +kernel), jm_ut_5, by decide +kernel⟩
theorem jm_ck_6 : jm_CK 6 (RX6, TX6, 4) := ⟨tyX6, tyX6_ok, nmX6, jm_in_good jm_uw_6 jm_ug_6, jm_in_good jm_ui_6 (by decide +kernel), jm_ut_6, by decide +kernel⟩
theorem jm_ck_7 : jm_CK 7 (RX7, TX7, 3) := ⟨tyX7, tyX7_ok, nmX7, jm_in_good jm_uw_7 jm_ug_7, jm_in_good jm_ui_7 (by decide +kernel), jm_ut_7, by decide +kernel⟩
theorem jm_ck_8 : jm_CK 8 (RX8, TX8, 3) := ⟨tyX8, tyX8_ok, nmX8, jm_in_good jm_uw_8 jm_ug_8, jm_in_good jm_ui_8 (by decide +kernel), jm_ut_8, by decide +kernel⟩
theorem jm_ck_9 : jm_CK 9 (RX9, TX9, 12) := ⟨tyX9, tyX9_ok, nmX9, jm_in_good jm_uw_9 jm_ug_9, jm_in_good jm_ui_9 (by decide +kernel), jm_ut_9, by decide +kernel⟩
theorem jm_ck_10 : jm_CK 10 (RX10, TX10, 18) := ⟨tyX10, tyX10_ok, nmX10, jm_in_good jm_uw_10 jm_ug_10, jm_in_good jm_ui_10 (by decide +kernel), jm_ut_10, by decide +kernel⟩
theorem jm_ck : ∀ (c : Nat) (q : vw_C), vwCl[c]? = some q → jm_CK c q
  | 0, _, rfl => jm_ck_0
  | 1, _, rfl => jm_ck_1
  | 2, _, rfl => jm_ck_2
  | 3, _, rfl => jm_ck_3
  | 4, _, rfl => jm_ck_4
  | 5, _, rfl => jm_ck_5
  | 6, _, rfl => jm_ck_6
  | 7, _, rfl => jm_ck_7
  | 8, _, rfl => jm_ck_8
  | 9, _, rfl => jm_ck_9
  | 10, _, rfl => jm_ck_10
  | k + 11, q, h => by simp [vwCl] at h
theorem jm_CN_T (c : Nat) (q : vw_C) (h : vwCl[c]? = some q) : jm_T c = q.2.1 ∧ jm_N c = q.2.2 := by unfold jm_T jm_N; rw [List.getD_eq_getElem?_getD, h]; exact ⟨rfl, rfl⟩
theorem jm_lt_T (c k : Nat) (h : k < jm_N c) : ∃ q, vwCl[c]? = some q := by
  cases hq : vwCl[c]? with
  | some q => exact ⟨q, rfl⟩
  | none => unfold jm_N at h; rw [List.getD_eq_getElem?_getD, hq] at h; exact absurd h (Nat.not_lt_zero k)
theorem jm_mr_0 : ∀ x ∈ [jm_i_X0_init, jm_i_X0_answer, jm_i_X0_traced, jm_i_X0_bodyOf, jm_i_X0_leaveTrace, jm_i_X0_give, jm_i_X1_init, jm_i_X1_takeOver, jm_i_X1_wipes, jm_i_X1_isOf, jm_i_X2_init, jm_i_X2_cleanOnes, jm_i_X2_told, jm_i_X2_seekOrder, jm_i_X2_tryOrders, jm_i_X2_seekLaying, jm_i_X2_tryLayings, jm_i_X2_keepTried, jm_i_X2_fewestBeaten, jm_i_X2_carriedIfBeaten], ∀ w ∈ jm_miw x, w ∈ lw_tbl := List.forall_mem_cons.mpr ⟨jm_hw_in jm_o_X0_init, List.forall_mem_cons.mpr ⟨jm_hw_in jm_o_X0_answer, List.forall_mem_cons.mpr ⟨jm_hw_in jm_o_X0_traced, List.forall_mem_cons.mpr ⟨jm_hw_in jm_o_X0_bodyOf, List.forall_mem_cons.mpr ⟨jm_hw_in jm_o_X0_leaveTrace, List.forall_mem_cons.mpr ⟨jm_hw_in jm_o_X0_give, List.forall_mem_cons.mpr ⟨jm_hw_in jm_o_X1_init, List.forall_mem_cons.mpr ⟨jm_hw_in jm_o_X1_takeOver, List.forall_mem_cons.mpr ⟨jm_hw_in jm_o_X1_wipes, List.forall_mem_cons.mpr ⟨jm_hw_in jm_o_X1_isOf, List.forall_mem_cons.mpr ⟨jm_hw_in jm_o_X2_init, List.forall_mem_cons.mpr ⟨jm_hw_in jm_o_X2_cleanOnes, List.forall_mem_cons.mpr ⟨jm_hw_in jm_o_X2_told, List.forall_mem_cons.mpr ⟨jm_hw_in jm_o_X2_seekOrder, List.forall_mem_cons.mpr ⟨jm_hw_in jm_o_X2_tryOrders, List.forall_mem_cons.mpr ⟨jm_hw_in jm_o_X2_seekLaying, List.forall_mem_cons.mpr ⟨jm_hw_in jm_o_X2_tryLayings, List.forall_mem_cons.mpr ⟨jm_hw_in jm_o_X2_keepTried, List.forall_mem_cons.mpr ⟨jm_hw_in jm_o_X2_fewestBeaten, List.forall_mem_cons.mpr ⟨jm_hw_in jm_o_X2_carriedIfBeaten, fun _ h => absurd h List.not_mem_nil⟩⟩⟩⟩⟩⟩⟩⟩⟩⟩⟩⟩⟩⟩⟩⟩⟩⟩⟩⟩
theorem jm_mr_1 : ∀ x ∈ [jm_i_X2_uniters, jm_i_X2_bindsTo, jm_i_X2_culprits, jm_i_X2_tryAs, jm_i_X2_fitting, jm_i_X2_giveTrait, jm_i_X2_isSoBehind, jm_i_X2_likelihood, jm_i_X2_weight, jm_i_X2_commonDivisor, jm_i_X2_years, jm_i_X3_init, jm_i_X3_isEmpty, jm_i_X3_size, jm_i_X3_forget, jm_i_X3_keep, jm_i_X3_takeBack, jm_i_X4_init, jm_i_X4_clear, jm_i_X4_takeOver], ∀ w ∈ jm_miw x, w ∈ lw_tbl := List.forall_mem_cons.mpr ⟨jm_hw_in jm_o_X2_uniters, List.forall_mem_cons.mpr ⟨jm_hw_in jm_o_X2_bindsTo, List.forall_mem_cons.mpr ⟨jm_hw_in jm_o_X2_culprits, List.forall_mem_cons.mpr ⟨jm_hw_in jm_o_X2_tryAs, List.forall_mem_cons.mpr ⟨jm_hw_in jm_o_X2_fitting, List.forall_mem_cons.mpr ⟨jm_hw_in jm_o_X2_giveTrait, List.forall_mem_cons.mpr ⟨jm_hw_in jm_o_X2_isSoBehind, List.forall_mem_cons.mpr ⟨jm_hw_in jm_o_X2_likelihood, List.forall_mem_cons.mpr ⟨jm_hw_in jm_o_X2_weight, List.forall_mem_cons.mpr ⟨jm_hw_in jm_o_X2_commonDivisor, List.forall_mem_cons.mpr ⟨jm_hw_in jm_o_X2_years, List.forall_mem_cons.mpr ⟨jm_hw_in jm_o_X3_init, List.forall_mem_cons.mpr ⟨jm_hw_in jm_o_X3_isEmpty, List.forall_mem_cons.mpr ⟨jm_hw_in jm_o_X3_size, List.forall_mem_cons.mpr ⟨jm_hw_in jm_o_X3_forget, List.forall_mem_cons.mpr ⟨jm_hw_in jm_o_X3_keep, List.forall_mem_cons.mpr ⟨jm_hw_in jm_o_X3_takeBack, List.forall_mem_cons.mpr ⟨jm_hw_in jm_o_X4_init, List.forall_mem_cons.mpr ⟨jm_hw_in jm_o_X4_clear, List.forall_mem_cons.mpr ⟨jm_hw_in jm_o_X4_takeOver, fun _ h => absurd h List.not_mem_nil⟩⟩⟩⟩⟩⟩⟩⟩⟩⟩⟩⟩⟩⟩⟩⟩⟩⟩⟩⟩
theorem jm_mr_2 : ∀ x ∈ [jm_i_X4_writeCells, jm_i_X4_readCells, jm_i_X4_allComers, jm_i_X4_receive, jm_i_X4_swapWithNext, jm_i_X4_rainOnAll, jm_i_X4_areAtOne, jm_i_X4_pactCount, jm_i_X4_firstPact, jm_i_X4_lyingInAll, jm_i_X4_comings, jm_i_X5_init, jm_i_X5_lying, jm_i_X5_master, jm_i_X5_empty, jm_i_X5_takeOver, jm_i_X6_init, jm_i_X6_isFull, jm_i_X6_size, jm_i_X6_append], ∀ w ∈ jm_miw x, w ∈ lw_tbl := List.forall_mem_cons.mpr ⟨jm_hw_in jm_o_X4_writeCells, List.forall_mem_cons.mpr ⟨jm_hw_in jm_o_X4_readCells, List.forall_mem_cons.mpr ⟨jm_hw_in jm_o_X4_allComers, List.forall_mem_cons.mpr ⟨jm_hw_in jm_o_X4_receive, List.forall_mem_cons.mpr ⟨jm_hw_in jm_o_X4_swapWithNext, List.forall_mem_cons.mpr ⟨jm_hw_in jm_o_X4_rainOnAll, List.forall_mem_cons.mpr ⟨jm_hw_in jm_o_X4_areAtOne, List.forall_mem_cons.mpr ⟨jm_hw_in jm_o_X4_pactCount, List.forall_mem_cons.mpr ⟨jm_hw_in jm_o_X4_firstPact, List.forall_mem_cons.mpr ⟨jm_hw_in jm_o_X4_lyingInAll, List.forall_mem_cons.mpr ⟨jm_hw_in jm_o_X4_comings, List.forall_mem_cons.mpr ⟨jm_hw_in jm_o_X5_init, List.forall_mem_cons.mpr ⟨jm_hw_in jm_o_X5_lying, List.forall_mem_cons.mpr ⟨jm_hw_in jm_o_X5_master, List.forall_mem_cons.mpr ⟨jm_hw_in jm_o_X5_empty, List.forall_mem_cons.mpr ⟨jm_hw_in jm_o_X5_takeOver, List.forall_mem_cons.mpr ⟨jm_hw_in jm_o_X6_init, List.forall_mem_cons.mpr ⟨jm_hw_in jm_o_X6_isFull, List.forall_mem_cons.mpr ⟨jm_hw_in jm_o_X6_size, List.forall_mem_cons.mpr ⟨jm_hw_in jm_o_X6_append, fun _ h => absurd h List.not_mem_nil⟩⟩⟩⟩⟩⟩⟩⟩⟩⟩⟩⟩⟩⟩⟩⟩⟩⟩⟩⟩
theorem jm_mr_3 : ∀ x ∈ [jm_i_X6_place, jm_i_X6_readInto, jm_i_X6_readLaw, jm_i_X6_readMats, jm_i_X6_readComers, jm_i_X6_readTraits, jm_i_X6_sortOf, jm_i_X6_seen, jm_i_X6_refuse, jm_i_X6_takeByte, jm_i_X6_takeNumber, jm_i_X6_isFigure, jm_i_X7_init, jm_i_X7_isMissing, jm_i_X7_sameLane, jm_i_X7_reaches, jm_i_X7_item, jm_i_X7_make, jm_i_X7_put, jm_i_X7_carryOver], ∀ w ∈ jm_miw x, w ∈ lw_tbl := List.forall_mem_cons.mpr ⟨jm_hw_in jm_o_X6_place, List.forall_mem_cons.mpr ⟨jm_hw_in jm_o_X6_readInto, List.forall_mem_cons.mpr ⟨jm_hw_in jm_o_X6_readLaw, List.forall_mem_cons.mpr ⟨jm_hw_in jm_o_X6_readMats, List.forall_mem_cons.mpr ⟨jm_hw_in jm_o_X6_readComers, List.forall_mem_cons.mpr ⟨jm_hw_in jm_o_X6_readTraits, List.forall_mem_cons.mpr ⟨jm_hw_in jm_o_X6_sortOf, List.forall_mem_cons.mpr ⟨jm_hw_in jm_o_X6_seen, List.forall_mem_cons.mpr ⟨jm_hw_in jm_o_X6_refuse, List.forall_mem_cons.mpr ⟨jm_hw_in jm_o_X6_takeByte, List.forall_mem_cons.mpr ⟨jm_hw_in jm_o_X6_takeNumber, List.forall_mem_cons.mpr ⟨jm_hw_in jm_o_X6_isFigure, List.forall_mem_cons.mpr ⟨jm_hw_in jm_o_X7_init, List.forall_mem_cons.mpr ⟨jm_hw_in jm_o_X7_isMissing, List.forall_mem_cons.mpr ⟨jm_hw_in jm_o_X7_sameLane, List.forall_mem_cons.mpr ⟨jm_hw_in jm_o_X7_reaches, List.forall_mem_cons.mpr ⟨jm_hw_in jm_o_X7_item, List.forall_mem_cons.mpr ⟨jm_hw_in jm_o_X7_make, List.forall_mem_cons.mpr ⟨jm_hw_in jm_o_X7_put, List.forall_mem_cons.mpr ⟨jm_hw_in jm_o_X7_carryOver, fun _ h => absurd h List.not_mem_nil⟩⟩⟩⟩⟩⟩⟩⟩⟩⟩⟩⟩⟩⟩⟩⟩⟩⟩⟩⟩
theorem jm_mr_4 : ∀ x ∈ [jm_i_X7_remove, jm_i_X7_present, jm_i_X8_init, jm_i_X8_begin, jm_i_X8_goOver, jm_i_X8_allGoOver, jm_i_X8_lyingInAll, jm_i_X9_init, jm_i_X9_row, jm_i_X9_set, jm_i_X9_copy, jm_i_X9_drop, jm_i_X9_feed, jm_i_X9_hotel, jm_i_X9_fault, jm_i_X9_come, jm_i_X9_beat, jm_i_X9_change, jm_i_X9_rain, jm_i_X9_undo], ∀ w ∈ jm_miw x, w ∈ lw_tbl := List.forall_mem_cons.mpr ⟨jm_hw_in jm_o_X7_remove, List.forall_mem_cons.mpr ⟨jm_hw_in jm_o_X7_present, List.forall_mem_cons.mpr ⟨jm_hw_in jm_o_X8_init, List.forall_mem_cons.mpr ⟨jm_hw_in jm_o_X8_begin, List.forall_mem_cons.mpr ⟨jm_hw_in jm_o_X8_goOver, List.forall_mem_cons.mpr ⟨jm_hw_in jm_o_X8_allGoOver, List.forall_mem_cons.mpr ⟨jm_hw_in jm_o_X8_lyingInAll, List.forall_mem_cons.mpr ⟨jm_hw_in jm_o_X9_init, List.forall_mem_cons.mpr ⟨jm_hw_in jm_o_X9_row, List.forall_mem_cons.mpr ⟨jm_hw_in jm_o_X9_set, List.forall_mem_cons.mpr ⟨jm_hw_in jm_o_X9_copy, List.forall_mem_cons.mpr ⟨jm_hw_in jm_o_X9_drop, List.forall_mem_cons.mpr ⟨jm_hw_in jm_o_X9_feed, List.forall_mem_cons.mpr ⟨jm_hw_in jm_o_X9_hotel, List.forall_mem_cons.mpr ⟨jm_hw_in jm_o_X9_fault, List.forall_mem_cons.mpr ⟨jm_hw_in jm_o_X9_come, List.forall_mem_cons.mpr ⟨jm_hw_in jm_o_X9_beat, List.forall_mem_cons.mpr ⟨jm_hw_in jm_o_X9_change, List.forall_mem_cons.mpr ⟨jm_hw_in jm_o_X9_rain, List.forall_mem_cons.mpr ⟨jm_hw_in jm_o_X9_undo, fun _ h => absurd h List.not_mem_nil⟩⟩⟩⟩⟩⟩⟩⟩⟩⟩⟩⟩⟩⟩⟩⟩⟩⟩⟩⟩
theorem jm_mr_5 : ∀ x ∈ [jm_i_X9_comer, jm_i_X9_mat, jm_i_X9_soil, jm_i_X9_atOne, jm_i_X9_leaves, jm_i_X9_carries, jm_i_X9_clean, jm_i_X9_order, jm_i_X9_laying, jm_i_X9_beating, jm_i_X9_pacts, jm_i_X9_could, jm_i_X9_who, jm_i_X9_fits, jm_i_X9_absent, jm_i_X9_drawn, jm_i_X9_image, jm_i_X9_restore, jm_i_X9_kind, jm_i_X9_as], ∀ w ∈ jm_miw x, w ∈ lw_tbl := List.forall_mem_cons.mpr ⟨jm_hw_in jm_o_X9_comer, List.forall_mem_cons.mpr ⟨jm_hw_in jm_o_X9_mat, List.forall_mem_cons.mpr ⟨jm_hw_in jm_o_X9_soil, List.forall_mem_cons.mpr ⟨jm_hw_in jm_o_X9_atOne, List.forall_mem_cons.mpr ⟨jm_hw_in jm_o_X9_leaves, List.forall_mem_cons.mpr ⟨jm_hw_in jm_o_X9_carries, List.forall_mem_cons.mpr ⟨jm_hw_in jm_o_X9_clean, List.forall_mem_cons.mpr ⟨jm_hw_in jm_o_X9_order, List.forall_mem_cons.mpr ⟨jm_hw_in jm_o_X9_laying, List.forall_mem_cons.mpr ⟨jm_hw_in jm_o_X9_beating, List.forall_mem_cons.mpr ⟨jm_hw_in jm_o_X9_pacts, List.forall_mem_cons.mpr ⟨jm_hw_in jm_o_X9_could, List.forall_mem_cons.mpr ⟨jm_hw_in jm_o_X9_who, List.forall_mem_cons.mpr ⟨jm_hw_in jm_o_X9_fits, List.forall_mem_cons.mpr ⟨jm_hw_in jm_o_X9_absent, List.forall_mem_cons.mpr ⟨jm_hw_in jm_o_X9_drawn, List.forall_mem_cons.mpr ⟨jm_hw_in jm_o_X9_image, List.forall_mem_cons.mpr ⟨jm_hw_in jm_o_X9_restore, List.forall_mem_cons.mpr ⟨jm_hw_in jm_o_X9_kind, List.forall_mem_cons.mpr ⟨jm_hw_in jm_o_X9_as, fun _ h => absurd h List.not_mem_nil⟩⟩⟩⟩⟩⟩⟩⟩⟩⟩⟩⟩⟩⟩⟩⟩⟩⟩⟩⟩
theorem jm_mr_6 : ∀ x ∈ [jm_i_X9_ask, jm_i_X9_trace, jm_i_X9_count, jm_i_X9_status, jm_i_X9_noRow, jm_i_X9_noImage, jm_i_X9_noCarried, jm_i_X9_neither, jm_i_X9_noHotel, jm_i_X9_noComer, jm_i_X9_noMat, jm_i_X9_found, jm_i_X9_unfound, jm_i_X9_matRowFinding, jm_i_X10_init, jm_i_X10_in, jm_i_X10_has, jm_i_X10_bits, jm_i_X10_find, jm_i_X10_well], ∀ w ∈ jm_miw x, w ∈ lw_tbl := List.forall_mem_cons.mpr ⟨jm_hw_in jm_o_X9_ask, List.forall_mem_cons.mpr ⟨jm_hw_in jm_o_X9_trace, List.forall_mem_cons.mpr ⟨jm_hw_in jm_o_X9_count, List.forall_mem_cons.mpr ⟨jm_hw_in jm_o_X9_status, List.forall_mem_cons.mpr ⟨jm_hw_in jm_o_X9_noRow, List.forall_mem_cons.mpr ⟨jm_hw_in jm_o_X9_noImage, List.forall_mem_cons.mpr ⟨jm_hw_in jm_o_X9_noCarried, List.forall_mem_cons.mpr ⟨jm_hw_in jm_o_X9_neither, List.forall_mem_cons.mpr ⟨jm_hw_in jm_o_X9_noHotel, List.forall_mem_cons.mpr ⟨jm_hw_in jm_o_X9_noComer, List.forall_mem_cons.mpr ⟨jm_hw_in jm_o_X9_noMat, List.forall_mem_cons.mpr ⟨jm_hw_in jm_o_X9_found, List.forall_mem_cons.mpr ⟨jm_hw_in jm_o_X9_unfound, List.forall_mem_cons.mpr ⟨jm_hw_in jm_o_X9_matRowFinding, List.forall_mem_cons.mpr ⟨jm_hw_in jm_o_X10_init, List.forall_mem_cons.mpr ⟨jm_hw_in jm_o_X10_in, List.forall_mem_cons.mpr ⟨jm_hw_in jm_o_X10_has, List.forall_mem_cons.mpr ⟨jm_hw_in jm_o_X10_bits, List.forall_mem_cons.mpr ⟨jm_hw_in jm_o_X10_find, List.forall_mem_cons.mpr ⟨jm_hw_in jm_o_X10_well, fun _ h => absurd h List.not_mem_nil⟩⟩⟩⟩⟩⟩⟩⟩⟩⟩⟩⟩⟩⟩⟩⟩⟩⟩⟩⟩
theorem jm_mr_7 : ∀ x ∈ [jm_i_X10_isRow, jm_i_X10_row, jm_i_X10_narrow, jm_i_X10_set, jm_i_X10_isSpan, jm_i_X10_copy, jm_i_X10_drop, jm_i_X10_feed, jm_i_X10_isLetter, jm_i_X10_isFigure, jm_i_X10_refuse, jm_i_X10_sign, jm_i_X10_readsNumber, jm_i_X10_readsLaw, jm_i_X10_readsMat, jm_i_X10_kindOfLetter, jm_i_X10_readsComer, jm_i_X10_isSort, jm_i_X10_reads, jm_i_X10_hotel], ∀ w ∈ jm_miw x, w ∈ lw_tbl := List.forall_mem_cons.mpr ⟨jm_hw_in jm_o_X10_isRow, List.forall_mem_cons.mpr ⟨jm_hw_in jm_o_X10_row, List.forall_mem_cons.mpr ⟨jm_hw_in jm_o_X10_narrow, List.forall_mem_cons.mpr ⟨jm_hw_in jm_o_X10_set, List.forall_mem_cons.mpr ⟨jm_hw_in jm_o_X10_isSpan, List.forall_mem_cons.mpr ⟨jm_hw_in jm_o_X10_copy, List.forall_mem_cons.mpr ⟨jm_hw_in jm_o_X10_drop, List.forall_mem_cons.mpr ⟨jm_hw_in jm_o_X10_feed, List.forall_mem_cons.mpr ⟨jm_hw_in jm_o_X10_isLetter, List.forall_mem_cons.mpr ⟨jm_hw_in jm_o_X10_isFigure, List.forall_mem_cons.mpr ⟨jm_hw_in jm_o_X10_refuse, List.forall_mem_cons.mpr ⟨jm_hw_in jm_o_X10_sign, List.forall_mem_cons.mpr ⟨jm_hw_in jm_o_X10_readsNumber, List.forall_mem_cons.mpr ⟨jm_hw_in jm_o_X10_readsLaw, List.forall_mem_cons.mpr ⟨jm_hw_in jm_o_X10_readsMat, List.forall_mem_cons.mpr ⟨jm_hw_in jm_o_X10_kindOfLetter, List.forall_mem_cons.mpr ⟨jm_hw_in jm_o_X10_readsComer, List.forall_mem_cons.mpr ⟨jm_hw_in jm_o_X10_isSort, List.forall_mem_cons.mpr ⟨jm_hw_in jm_o_X10_reads, List.forall_mem_cons.mpr ⟨jm_hw_in jm_o_X10_hotel, fun _ h => absurd h List.not_mem_nil⟩⟩⟩⟩⟩⟩⟩⟩⟩⟩⟩⟩⟩⟩⟩⟩⟩⟩⟩⟩
theorem jm_mr_8 : ∀ x ∈ [jm_i_X10_fault, jm_i_X10_copyTown, jm_i_X10_keepPast, jm_i_X10_undo, jm_i_X10_isComer, jm_i_X10_isMat, jm_i_X10_liesOn, jm_i_X10_onAll, jm_i_X10_leavesOn, jm_i_X10_comesAt, jm_i_X10_beatsAt, jm_i_X10_areAtOne, jm_i_X10_come, jm_i_X10_beat, jm_i_X10_swapPlaces, jm_i_X10_change, jm_i_X10_rain, jm_i_X10_comer, jm_i_X10_masterOf, jm_i_X10_mat], ∀ w ∈ jm_miw x, w ∈ lw_tbl := List.forall_mem_cons.mpr ⟨jm_hw_in jm_o_X10_fault, List.forall_mem_cons.mpr ⟨jm_hw_in jm_o_X10_copyTown, List.forall_mem_cons.mpr ⟨jm_hw_in jm_o_X10_keepPast, List.forall_mem_cons.mpr ⟨jm_hw_in jm_o_X10_undo, List.forall_mem_cons.mpr ⟨jm_hw_in jm_o_X10_isComer, List.forall_mem_cons.mpr ⟨jm_hw_in jm_o_X10_isMat, List.forall_mem_cons.mpr ⟨jm_hw_in jm_o_X10_liesOn, List.forall_mem_cons.mpr ⟨jm_hw_in jm_o_X10_onAll, List.forall_mem_cons.mpr ⟨jm_hw_in jm_o_X10_leavesOn, List.forall_mem_cons.mpr ⟨jm_hw_in jm_o_X10_comesAt, List.forall_mem_cons.mpr ⟨jm_hw_in jm_o_X10_beatsAt, List.forall_mem_cons.mpr ⟨jm_hw_in jm_o_X10_areAtOne, List.forall_mem_cons.mpr ⟨jm_hw_in jm_o_X10_come, List.forall_mem_cons.mpr ⟨jm_hw_in jm_o_X10_beat, List.forall_mem_cons.mpr ⟨jm_hw_in jm_o_X10_swapPlaces, List.forall_mem_cons.mpr ⟨jm_hw_in jm_o_X10_change, List.forall_mem_cons.mpr ⟨jm_hw_in jm_o_X10_rain, List.forall_mem_cons.mpr ⟨jm_hw_in jm_o_X10_comer, List.forall_mem_cons.mpr ⟨jm_hw_in jm_o_X10_masterOf, List.forall_mem_cons.mpr ⟨jm_hw_in jm_o_X10_mat, fun _ h => absurd h List.not_mem_nil⟩⟩⟩⟩⟩⟩⟩⟩⟩⟩⟩⟩⟩⟩⟩⟩⟩⟩⟩⟩
theorem jm_mr_9 : ∀ x ∈ [jm_i_X10_soil, jm_i_X10_atOne, jm_i_X10_layTried, jm_i_X10_carriesIf, jm_i_X10_leaves, jm_i_X10_carries, jm_i_X10_clean, jm_i_X10_layLine, jm_i_X10_swapLine, jm_i_X10_takeLine, jm_i_X10_nextLine, jm_i_X10_comeAll, jm_i_X10_order, jm_i_X10_layMats, jm_i_X10_laying, jm_i_X10_beating, jm_i_X10_pacts, jm_i_X10_could, jm_i_X10_noItems, jm_i_X10_isSo], ∀ w ∈ jm_miw x, w ∈ lw_tbl := List.forall_mem_cons.mpr ⟨jm_hw_in jm_o_X10_soil, List.forall_mem_cons.mpr ⟨jm_hw_in jm_o_X10_atOne, List.forall_mem_cons.mpr ⟨jm_hw_in jm_o_X10_layTried, List.forall_mem_cons.mpr ⟨jm_hw_in jm_o_X10_carriesIf, List.forall_mem_cons.mpr ⟨jm_hw_in jm_o_X10_leaves, List.forall_mem_cons.mpr ⟨jm_hw_in jm_o_X10_carries, List.forall_mem_cons.mpr ⟨jm_hw_in jm_o_X10_clean, List.forall_mem_cons.mpr ⟨jm_hw_in jm_o_X10_layLine, List.forall_mem_cons.mpr ⟨jm_hw_in jm_o_X10_swapLine, List.forall_mem_cons.mpr ⟨jm_hw_in jm_o_X10_takeLine, List.forall_mem_cons.mpr ⟨jm_hw_in jm_o_X10_nextLine, List.forall_mem_cons.mpr ⟨jm_hw_in jm_o_X10_comeAll, List.forall_mem_cons.mpr ⟨jm_hw_in jm_o_X10_order, List.forall_mem_cons.mpr ⟨jm_hw_in jm_o_X10_layMats, List.forall_mem_cons.mpr ⟨jm_hw_in jm_o_X10_laying, List.forall_mem_cons.mpr ⟨jm_hw_in jm_o_X10_beating, List.forall_mem_cons.mpr ⟨jm_hw_in jm_o_X10_pacts, List.forall_mem_cons.mpr ⟨jm_hw_in jm_o_X10_could, List.forall_mem_cons.mpr ⟨jm_hw_in jm_o_X10_noItems, List.forall_mem_cons.mpr ⟨jm_hw_in jm_o_X10_isSo, fun _ h => absurd h List.not_mem_nil⟩⟩⟩⟩⟩⟩⟩⟩⟩⟩⟩⟩⟩⟩⟩⟩⟩⟩⟩⟩
theorem jm_mr_10 : ∀ x ∈ [jm_i_X10_who, jm_i_X10_fits, jm_i_X10_absent, jm_i_X10_drawn, jm_i_X10_image, jm_i_X10_restore, jm_i_X10_kind, jm_i_X10_isOf, jm_i_X10_as, jm_i_X10_begin, jm_i_X10_lentSize, jm_i_X10_wiperSize, jm_i_X10_stamperSize, jm_i_X10_sizeOf, jm_i_X10_lentMark, jm_i_X10_wiperMark, jm_i_X10_mark, jm_i_X10_stamperMark, jm_i_X10_ask, jm_i_X10_trace], ∀ w ∈ jm_miw x, w ∈ lw_tbl := List.forall_mem_cons.mpr ⟨jm_hw_in jm_o_X10_who, List.forall_mem_cons.mpr ⟨jm_hw_in jm_o_X10_fits, List.forall_mem_cons.mpr ⟨jm_hw_in jm_o_X10_absent, List.forall_mem_cons.mpr ⟨jm_hw_in jm_o_X10_drawn, List.forall_mem_cons.mpr ⟨jm_hw_in jm_o_X10_image, List.forall_mem_cons.mpr ⟨jm_hw_in jm_o_X10_restore, List.forall_mem_cons.mpr ⟨jm_hw_in jm_o_X10_kind, List.forall_mem_cons.mpr ⟨jm_hw_in jm_o_X10_isOf, List.forall_mem_cons.mpr ⟨jm_hw_in jm_o_X10_as, List.forall_mem_cons.mpr ⟨jm_hw_in jm_o_X10_begin, List.forall_mem_cons.mpr ⟨jm_hw_in jm_o_X10_lentSize, List.forall_mem_cons.mpr ⟨jm_hw_in jm_o_X10_wiperSize, List.forall_mem_cons.mpr ⟨jm_hw_in jm_o_X10_stamperSize, List.forall_mem_cons.mpr ⟨jm_hw_in jm_o_X10_sizeOf, List.forall_mem_cons.mpr ⟨jm_hw_in jm_o_X10_lentMark, List.forall_mem_cons.mpr ⟨jm_hw_in jm_o_X10_wiperMark, List.forall_mem_cons.mpr ⟨jm_hw_in jm_o_X10_mark, List.forall_mem_cons.mpr ⟨jm_hw_in jm_o_X10_stamperMark, List.forall_mem_cons.mpr ⟨jm_hw_in jm_o_X10_ask, List.forall_mem_cons.mpr ⟨jm_hw_in jm_o_X10_trace, fun _ h => absurd h List.not_mem_nil⟩⟩⟩⟩⟩⟩⟩⟩⟩⟩⟩⟩⟩⟩⟩⟩⟩⟩⟩⟩
theorem jm_mr_11 : ∀ x ∈ [jm_i_X10_comings, jm_i_X10_count, jm_i_X10_status, jm_i_J6_bitCount_0f7a4], ∀ w ∈ jm_miw x, w ∈ lw_tbl := List.forall_mem_cons.mpr ⟨jm_hw_in jm_o_X10_comings, List.forall_mem_cons.mpr ⟨jm_hw_in jm_o_X10_count, List.forall_mem_cons.mpr ⟨jm_hw_in jm_o_X10_status, List.forall_mem_cons.mpr ⟨jm_hw_in jm_o_J6_bitCount_0f7a4, fun _ h => absurd h List.not_mem_nil⟩⟩⟩⟩
def jm_mq : List jm_I := [jm_i_X0_init, jm_i_X0_answer, jm_i_X0_traced, jm_i_X0_bodyOf, jm_i_X0_leaveTrace, jm_i_X0_give, jm_i_X1_init, jm_i_X1_takeOver, jm_i_X1_wipes, jm_i_X1_isOf, jm_i_X2_init, jm_i_X2_cleanOnes, jm_i_X2_told, jm_i_X2_seekOrder, jm_i_X2_tryOrders, jm_i_X2_seekLaying, jm_i_X2_tryLayings, jm_i_X2_keepTried, jm_i_X2_fewestBeaten, jm_i_X2_carriedIfBeaten] ++ ([jm_i_X2_uniters, jm_i_X2_bindsTo, jm_i_X2_culprits, jm_i_X2_tryAs, jm_i_X2_fitting, jm_i_X2_giveTrait, jm_i_X2_isSoBehind, jm_i_X2_likelihood, jm_i_X2_weight, jm_i_X2_commonDivisor, jm_i_X2_years, jm_i_X3_init, jm_i_X3_isEmpty, jm_i_X3_size, jm_i_X3_forget, jm_i_X3_keep, jm_i_X3_takeBack, jm_i_X4_init, jm_i_X4_clear, jm_i_X4_takeOver] ++ ([jm_i_X4_writeCells, jm_i_X4_readCells, jm_i_X4_allComers, jm_i_X4_receive, jm_i_X4_swapWithNext, jm_i_X4_rainOnAll, jm_i_X4_areAtOne, jm_i_X4_pactCount, jm_i_X4_firstPact, jm_i_X4_lyingInAll, jm_i_X4_comings, jm_i_X5_init, jm_i_X5_lying, jm_i_X5_master, jm_i_X5_empty, jm_i_X5_takeOver, jm_i_X6_init, jm_i_X6_isFull, jm_i_X6_size, jm_i_X6_append] ++ ([jm_i_X6_place, jm_i_X6_readInto, jm_i_X6_readLaw, jm_i_X6_readMats, jm_i_X6_readComers, jm_i_X6_readTraits, jm_i_X6_sortOf, jm_i_X6_seen, jm_i_X6_refuse, jm_i_X6_takeByte, jm_i_X6_takeNumber, jm_i_X6_isFigure, jm_i_X7_init, jm_i_X7_isMissing, jm_i_X7_sameLane, jm_i_X7_reaches, jm_i_X7_item, jm_i_X7_make, jm_i_X7_put, jm_i_X7_carryOver] ++ ([jm_i_X7_remove, jm_i_X7_present, jm_i_X8_init, jm_i_X8_begin, jm_i_X8_goOver, jm_i_X8_allGoOver, jm_i_X8_lyingInAll, jm_i_X9_init, jm_i_X9_row, jm_i_X9_set, jm_i_X9_copy, jm_i_X9_drop, jm_i_X9_feed, jm_i_X9_hotel, jm_i_X9_fault, jm_i_X9_come, jm_i_X9_beat, jm_i_X9_change, jm_i_X9_rain, jm_i_X9_undo] ++ ([jm_i_X9_comer, jm_i_X9_mat, jm_i_X9_soil, jm_i_X9_atOne, jm_i_X9_leaves, jm_i_X9_carries, jm_i_X9_clean, jm_i_X9_order, jm_i_X9_laying, jm_i_X9_beating, jm_i_X9_pacts, jm_i_X9_could, jm_i_X9_who, jm_i_X9_fits, jm_i_X9_absent, jm_i_X9_drawn, jm_i_X9_image, jm_i_X9_restore, jm_i_X9_kind, jm_i_X9_as] ++ ([jm_i_X9_ask, jm_i_X9_trace, jm_i_X9_count, jm_i_X9_status, jm_i_X9_noRow, jm_i_X9_noImage, jm_i_X9_noCarried, jm_i_X9_neither, jm_i_X9_noHotel, jm_i_X9_noComer, jm_i_X9_noMat, jm_i_X9_found, jm_i_X9_unfound, jm_i_X9_matRowFinding, jm_i_X10_init, jm_i_X10_in, jm_i_X10_has, jm_i_X10_bits, jm_i_X10_find, jm_i_X10_well] ++ ([jm_i_X10_isRow, jm_i_X10_row, jm_i_X10_narrow, jm_i_X10_set, jm_i_X10_isSpan, jm_i_X10_copy, jm_i_X10_drop, jm_i_X10_feed, jm_i_X10_isLetter, jm_i_X10_isFigure, jm_i_X10_refuse, jm_i_X10_sign, jm_i_X10_readsNumber, jm_i_X10_readsLaw, jm_i_X10_readsMat, jm_i_X10_kindOfLetter, jm_i_X10_readsComer, jm_i_X10_isSort, jm_i_X10_reads, jm_i_X10_hotel] ++ ([jm_i_X10_fault, jm_i_X10_copyTown, jm_i_X10_keepPast, jm_i_X10_undo, jm_i_X10_isComer, jm_i_X10_isMat, jm_i_X10_liesOn, jm_i_X10_onAll, jm_i_X10_leavesOn, jm_i_X10_comesAt, jm_i_X10_beatsAt, jm_i_X10_areAtOne, jm_i_X10_come, jm_i_X10_beat, jm_i_X10_swapPlaces, jm_i_X10_change, jm_i_X10_rain, jm_i_X10_comer, jm_i_X10_masterOf, jm_i_X10_mat] ++ ([jm_i_X10_soil, jm_i_X10_atOne, jm_i_X10_layTried, jm_i_X10_carriesIf, jm_i_X10_leaves, jm_i_X10_carries, jm_i_X10_clean, jm_i_X10_layLine, jm_i_X10_swapLine, jm_i_X10_takeLine, jm_i_X10_nextLine, jm_i_X10_comeAll, jm_i_X10_order, jm_i_X10_layMats, jm_i_X10_laying, jm_i_X10_beating, jm_i_X10_pacts, jm_i_X10_could, jm_i_X10_noItems, jm_i_X10_isSo] ++ ([jm_i_X10_who, jm_i_X10_fits, jm_i_X10_absent, jm_i_X10_drawn, jm_i_X10_image, jm_i_X10_restore, jm_i_X10_kind, jm_i_X10_isOf, jm_i_X10_as, jm_i_X10_begin, jm_i_X10_lentSize, jm_i_X10_wiperSize, jm_i_X10_stamperSize, jm_i_X10_sizeOf, jm_i_X10_lentMark, jm_i_X10_wiperMark, jm_i_X10_mark, jm_i_X10_stamperMark, jm_i_X10_ask, jm_i_X10_trace] ++ ([jm_i_X10_comings, jm_i_X10_count, jm_i_X10_status, jm_i_J6_bitCount_0f7a4])))))))))))
theorem jm_mq_w : ∀ x ∈ jm_mq, ∀ w ∈ jm_miw x, w ∈ lw_tbl := fun x h => (List.mem_append.mp h).elim (jm_mr_0 x) ((fun x h => (List.mem_append.mp h).elim (jm_mr_1 x) ((fun x h => (List.mem_append.mp h).elim (jm_mr_2 x) ((fun x h => (List.mem_append.mp h).elim (jm_mr_3 x) ((fun x h => (List.mem_append.mp h).elim (jm_mr_4 x) ((fun x h => (List.mem_append.mp h).elim (jm_mr_5 x) ((fun x h => (List.mem_append.mp h).elim (jm_mr_6 x) ((fun x h => (List.mem_append.mp h).elim (jm_mr_7 x) ((fun x h => (List.mem_append.mp h).elim (jm_mr_8 x) ((fun x h => (List.mem_append.mp h).elim (jm_mr_9 x) ((fun x h => (List.mem_append.mp h).elim (jm_mr_10 x) ((jm_mr_11) x)) x)) x)) x)) x)) x)) x)) x)) x)) x)) x)
def jm_mok (x : jm_I) : Bool := (jm_miw x).all goodWord && (plainName x.1.cls && (decide (x.1.cls ≠ "java/lang/invoke/MethodHandle") && (decide (x.1.cls ≠ "java/lang/invoke/VarHandle") && (decide ((parseMethodDescriptor x.1.desc).map (fun d => d.parameters.length) = some x.2.2.2.2.2.1) && (decide (x.2.2.1 ≤ 45) && (decide (jm_CN x.2.2.2.2.1 = x.1.cls) && (decide (x.2.2.2.2.2.2.1 ≤ 2) && (decide (x.2.2.2.2.2.2.1 = 2 → x.1.name = "<init>" ∧ x.2.2.2.1 = none) && decide (x.2.2.2.2.2.2.1 = 2 ∨ (x.2.2.2.2.2.2.2.1 = 0 ∧ x.2.2.2.2.2.2.2.2.1 = 0))))))))))
theorem jm_mq_ok : jm_mq.all jm_mok = true := by decide +kernel
theorem jm_mq_at : ∀ n, n < 224 → jm_mi.getD n jm_d0 = jm_mq.getD n jm_d0 := by
  intro n hn
  have h : jm_mi = jm_mq ++ [jm_i_L_law] := rfl
  rw [h, List.getD_eq_getElem?_getD, List.getD_eq_getElem?_getD, List.getElem?_append_left (by exact hn)]
theorem jm_mq_mem (n : Nat) (hn : n < 224) : jm_in n ∈ jm_mq := by
  unfold jm_in
  rw [jm_mq_at n hn, List.getD_eq_getElem?_getD]
  have hl : n < jm_mq.length := hn
  rw [List.getElem?_eq_getElem hl]
  exact List.getElem_mem hl
end
section
/-! a program of the small machine beside a method's bytes: what is looked at once, by counting -/
def jm_go (P : List jm_E) (t pc : Nat) : Bool := match P[t]? with
  | some e => e.1 == pc
  | none => false
theorem jm_go_spec {P : List jm_E} {t pc : Nat} (h : jm_go P t pc = true) : ∃ e, P[t]? = some e ∧ e.1 = pc := by
  unfold jm_go at h
  split at h
  · rename_i e he
    exact ⟨e, he, by simpa using h⟩
  · cases h
def jm_jmp (P : List jm_E) (pc : Nat) (off t : Int) : Bool := match P[t.toNat]? with
  | some e => decide ((pc : Int) + off = (e.1 : Int))
  | none => false
theorem jm_jmp_spec {P : List jm_E} {pc : Nat} {off t : Int} (h : jm_jmp P pc off t = true) : ∃ e, P[t.toNat]? = some e ∧ (pc : Int) + off = (e.1 : Int) := by
  unfold jm_jmp at h
  split at h
  · rename_i e he
    exact ⟨e, he, of_decide_eq_true h⟩
  · cases h
def jm_c (P : List jm_E) (i : Nat) (e : jm_E) (k : Nat) : Bool := e.2.2.1 == k && jm_go P (i + 1) (e.1 + k)
def jm_ckt (P : List jm_E) (pc : Nat) (d : Int) : Int → List Int → List Int → Bool
  | _, [], [t] => jm_jmp P pc d t
  | v, o :: os, w :: t :: r => w == v && (jm_jmp P pc o t && jm_ckt P pc d (v + 1) os r)
  | _, _, _ => false
def jm_ckl (P : List jm_E) (pc : Nat) (d : Int) : List (Int × Int) → List Int → Bool
  | [], [t] => jm_jmp P pc d t
  | q :: os, w :: t :: r => w == q.1 && (jm_jmp P pc q.2 t && jm_ckl P pc d os r)
  | _, _ => false
theorem jm_ckt_spec {P : List jm_E} {pc : Nat} {d a : Int} {K : Nat → Prop} : ∀ (v : Int) (os r : List Int), jm_ckt P pc d v os r = true → jm_sw K a r →
    (∃ (j : Nat) (off t : Int), a = v + j ∧ os[j]? = some off ∧ jm_jmp P pc off t = true ∧ K t.toNat) ∨ ((a < v ∨ v + os.length ≤ a) ∧ ∃ t, jm_jmp P pc d t = true ∧ K t.toNat)
  | v, [], [t], h, hs => by
    refine Or.inr ⟨?_, t, h, hs⟩
    simp only [List.length_nil]
    omega
  | v, o :: os, w :: t :: r, h, hs => by
    simp only [jm_ckt, Bool.and_eq_true, beq_iff_eq] at h
    obtain ⟨rfl, h1, h2⟩ := h
    by_cases ha : a = w
    · exact Or.inl ⟨0, o, t, by omega, rfl, h1, hs.1 ha⟩
    · rcases jm_ckt_spec (w + 1) os r h2 (hs.2 ha) with ⟨j, off, t', e1, e2, e3⟩ | ⟨e1, e2⟩
      · exact Or.inl ⟨j + 1, off, t', by omega, by simpa using e2, e3⟩
      · refine Or.inr ⟨?_, e2⟩
        simp only [List.length_cons]
        omega
  | v, [], [], h, hs => hs.elim
  | v, [], _ :: _ :: _, h, hs => by simp [jm_ckt] at h
  | v, _ :: _, [], h, hs => hs.elim
  | v, _ :: _, [_], h, hs => by simp [jm_ckt] at h
theorem jm_ckl_spec {P : List jm_E} {pc : Nat} {d a : Int} {K : Nat → Prop} : ∀ (os : List (Int × Int)) (r : List Int), jm_ckl P pc d os r = true → jm_sw K a r →
    ∃ t, jm_jmp P pc (Op.lookupswitch.offset os d a) t = true ∧ K t.toNat
  | [], [t], h, hs => ⟨t, h, hs⟩
  | q :: os, w :: t :: r, h, hs => by
    simp only [jm_ckl, Bool.and_eq_true, beq_iff_eq] at h
    obtain ⟨rfl, h1, h2⟩ := h
    obtain ⟨q1, q2⟩ := q
    rw [Op.lookupswitch.offset_cons]
    by_cases ha : a = q1
    · rw [if_pos (by first | exact ha.symm | exact ha)]
      exact ⟨t, h1, hs.1 ha⟩
    · rw [if_neg (by first | exact fun z => ha z.symm | exact ha)]
      exact jm_ckl_spec os r h2 (hs.2 ha)
  | [], [], h, hs => hs.elim
  | [], _ :: _ :: _, h, hs => by simp [jm_ckl] at h
  | _ :: _, [], h, hs => hs.elim
  | _ :: _, [_], h, hs => by simp [jm_ckl] at h
def jm_chk (n : Nat) (P : List jm_E) (i : Nat) (e : jm_E) : Bool :=
  match e.2.1 with
  | .iconst v => jm_c P i e 1 && decide (jm_r v)
  | .bipush v => jm_c P i e 2 && (decide (jm_r v) && decide ((Int8.ofInt v).toInt32 = Int32.ofInt v))
  | .sipush v => jm_c P i e 3 && (decide (jm_r v) && decide ((Int16.ofInt v).toInt32 = Int32.ofInt v))
  | .ldc x => jm_c P i e 2 && (match e.2.2.2 with
    | [v] => decide (jm_r v) && jm_kl.any (fun q => q.1 == jm_ow n && (q.2.1 == x && q.2.2.1 == v))
    | _ => false)
  | .ldc_w x => jm_c P i e 3 && (match e.2.2.2 with
    | [v] => decide (jm_r v) && jm_kl.any (fun q => q.1 == jm_ow n && (q.2.1 == x && q.2.2.1 == v))
    | _ => false)
  | .ldc2_w x => jm_c P i e 3 && (match e.2.2.2 with
    | [v] => decide (jm_rl v) && jm_jl.any (fun q => q.1 == jm_ow n && (q.2.1 == x && q.2.2.1 == v))
    | _ => false)
  | .lconst _ => jm_c P i e 1
  | .iload _ => jm_c P i e 2
  | .iload_n _ => jm_c P i e 1
  | .lload _ => jm_c P i e 2
  | .lload_n _ => jm_c P i e 1
  | .aload _ => jm_c P i e 2
  | .aload_n _ => jm_c P i e 1
  | .istore k => jm_c P i e 2 && decide (k < jm_ma n)
  | .istore_n k => jm_c P i e 1 && decide (k.val < jm_ma n)
  | .lstore k => jm_c P i e 2 && decide (k + 1 < jm_ma n)
  | .lstore_n k => jm_c P i e 1 && decide (k.val + 1 < jm_ma n)
  | .astore k => jm_c P i e 2 && decide (k < jm_ma n)
  | .astore_n k => jm_c P i e 1 && decide (k.val < jm_ma n)
  | .iinc k _ => jm_c P i e 3 && decide (k < jm_ma n)
  | .iadd => jm_c P i e 1
  | .isub => jm_c P i e 1
  | .imul => jm_c P i e 1
  | .idiv => jm_c P i e 1
  | .irem => jm_c P i e 1
  | .ineg => jm_c P i e 1
  | .iand => jm_c P i e 1
  | .ior => jm_c P i e 1
  | .ixor => jm_c P i e 1
  | .ishl => jm_c P i e 1
  | .ishr => jm_c P i e 1
  | .iushr => jm_c P i e 1
  | .i2l => jm_c P i e 1
  | .l2i => jm_c P i e 1
  | .i2b => jm_c P i e 1
  | .i2s => jm_c P i e 1
  | .ladd => jm_c P i e 1
  | .lmul => jm_c P i e 1
  | .lrem => jm_c P i e 1
  | .lcmp => jm_c P i e 1
  | .dup => jm_c P i e 1
  | .dup2 => jm_c P i e 1
  | .pop => jm_c P i e 1
  | .ifCond _ off => jm_c P i e 3 && (match e.2.2.2 with
    | [t] => jm_jmp P e.1 off t
    | _ => false)
  | .if_icmp _ off => jm_c P i e 3 && (match e.2.2.2 with
    | [t] => jm_jmp P e.1 off t
    | _ => false)
  | .goto off => e.2.2.1 == 3 && (match e.2.2.2 with
    | [t] => jm_jmp P e.1 off t
    | _ => false)
  | .tableswitch d lo hi offs => decide (hi + 1 = lo + offs.toList.length) && jm_ckt P e.1 d lo offs.toList e.2.2.2
  | .lookupswitch d ps => (ps.toList.zip (ps.toList.drop 1)).all (fun (a, next) => a.1 < next.1) && jm_ckl P e.1 d ps.toList e.2.2.2
  | .getfield x => jm_c P i e 3 && (match e.2.2.2 with
    | [c, k, t] => decide (0 ≤ k ∧ t = (jm_fty c.toNat k.toNat : Int)) && jm_fl.any (fun q => q.1 == jm_ow n && (q.2.1 == x && (q.2.2.1 == c.toNat && q.2.2.2.1 == k.toNat)))
    | _ => false)
  | .putfield x => jm_c P i e 3 && (match e.2.2.2 with
    | [c, k, t] => decide (0 ≤ k ∧ t = (jm_fty c.toNat k.toNat : Int)) && (jm_fl.any (fun q => q.1 == jm_ow n && (q.2.1 == x && (q.2.2.1 == c.toNat && q.2.2.2.1 == k.toNat))) && ((jm_T c.toNat k.toNat).2.2.2 == false || (jm_ki n == 2 && jm_ow n == c.toNat)))
    | _ => false)
  | .getstatic x => jm_c P i e 3 && (match e.2.2.2 with
    | [k] => decide (k ≤ -3) && jm_sl.any (fun q => q.1 == jm_ow n && (q.2.1 == x && q.2.2.1 == (-3 - k).toNat))
    | _ => false)
  | .iaload => jm_c P i e 1
  | .baload => jm_c P i e 1
  | .aaload => jm_c P i e 1
  | .iastore => jm_c P i e 1
  | .bastore => jm_c P i e 1
  | .aastore => jm_c P i e 1
  | .arraylength => jm_c P i e 1
  | .newarray _ => jm_c P i e 2
  | .anewarray x => jm_c P i e 3 && (match e.2.2.2 with
    | [k] => jm_cl.any (fun q => q.1 == jm_ow n && (q.2.1 == x && ((k == 2 && q.2.2.1 == 5) || ((k == 3 && q.2.2.1 == 1) || (k == 4 && q.2.2.1 == 4)))))
    | _ => false)
  | .new x => jm_c P i e 3 && (match e.2.2.2 with
    | [c, w] => decide (w = (jm_N c.toNat : Int) ∧ c.toNat < 11) && jm_cl.any (fun q => q.1 == jm_ow n && (q.2.1 == x && q.2.2.1 == c.toNat))
    | _ => false)
  | .invokevirtual x => jm_c P i e 3 && (match e.2.2.2 with
    | [f, a, c] => decide (f.toNat < 224 ∧ jm_ki f.toNat = 0 ∧ jm_pa f.toNat = a.toNat ∧ c.toNat = jm_ow f.toNat ∧ c.toNat < 11) && jm_ml.any (fun q => q.1 == jm_ow n && (q.2.1 == x && q.2.2.1 == f.toNat))
    | _ => false)
  | .invokestatic x => jm_c P i e 3 && (match e.2.2.2 with
    | [f, a] => decide (f.toNat < 224 ∧ jm_ki f.toNat = 1 ∧ jm_pa f.toNat = a.toNat) && jm_ml.any (fun q => q.1 == jm_ow n && (q.2.1 == x && q.2.2.1 == f.toNat))
    | [_] => jm_xl.any (fun q => q.1 == jm_ow n && q.2.1 == x)
    | [] => jm_yl.any (fun q => q.1 == jm_ow n && q.2.1 == x)
    | _ => false)
  | .invokespecial x => jm_c P i e 3 && (match e.2.2.2 with
    | [f, a, b] => decide (f.toNat < 224 ∧ jm_ki f.toNat = 2 ∧ jm_pa f.toNat = 0 ∧ jm_mc f.toNat = a.toNat ∧ jm_ms f.toNat = b.toNat) && (jm_ml.any (fun q => q.1 == jm_ow n && (q.2.1 == x && q.2.2.1 == f.toNat)) || jm_nl.any (fun q => q.1 == jm_ow n && (q.2.1 == x && q.2.2.1 == f.toNat)))
    | [] => jm_ol.any (fun q => q.1 == jm_ow n && q.2.1 == x)
    | _ => false)
  | .ireturn => e.2.2.1 == 1 && (match e.2.2.2 with
    | [t] => decide ((t = 0 ∧ jm_re n = some .int) ∨ (t = 1 ∧ jm_re n = some .boolean))
    | _ => false)
  | .return_ => e.2.2.1 == 1 && decide (jm_re n = none)
  | _ => false
def jm_ckD (n : Nat) (P : List jm_E) : Bool := P.all (fun e => decide (decode (jm_co n) e.1 = .ok (e.2.1, e.2.2.1)))
def jm_ckP (n : Nat) (P : List jm_E) : Bool := P.zipIdx.all (fun q => jm_chk n P q.2 q.1)
theorem jm_ckD_spec {n : Nat} {P : List jm_E} (h : jm_ckD n P = true) {i : Nat} {e : jm_E} (he : P[i]? = some e) : decode (jm_co n) e.1 = .ok (e.2.1, e.2.2.1) := of_decide_eq_true (List.all_eq_true.mp h e (List.mem_of_getElem? he))
theorem jm_ckP_spec {n : Nat} {P : List jm_E} (h : jm_ckP n P = true) {i : Nat} {e : jm_E} (he : P[i]? = some e) : jm_chk n P i e = true := by
  have h1 := List.all_eq_true.mp h (e, i) (List.mem_iff_getElem?.mpr ⟨i, by simp [he]⟩)
  exact h1
theorem jm_c_spec {P : List jm_E} {i k : Nat} {e : jm_E} (h : jm_c P i e k = true) : e.2.2.1 = k ∧ ∃ e1, P[i + 1]? = some e1 ∧ e1.1 = e.1 + k := by
  simp only [jm_c, Bool.and_eq_true, beq_iff_eq] at h
  exact ⟨h.1, jm_go_spec h.2⟩
/-- the cells and the numbers of a run so far -/
def jm_Sim (D : va_G) (aC : Nat → ClassId) (ba : Nat) (ex : Nat → Nat) (s : State) (B : Nat × Nat) (n0 t0 : Nat) (h : jm_H) (H : Heap) (locs : List Loc) (cells slots : Nat) : Prop :=
  va_P D vwCl (jm_ws aC ba ex h) H ∧ (∀ i j, jm_r (h.2 i j)) ∧ va_S (fun q => ba ≤ q) s.heap H locs ∧ cells + n0 = h.1.length ∧ slots + t0 = jm_tot h.1 ∧ h.1.length ≤ B.1 ∧ jm_tot h.1 ≤ B.2
section JMC
variable (p : Program) (l : Launch) (e : Env) (R : Room) (s : State) (m : MethodId) (args : Array Value) (below : List Frame) (meth : Method) (c : Code) (D : va_G) (aC : Nat → ClassId) (ba : Nat) (ex : Nat → Nat)
/-- all that stays while a method runs -/
def jm_Cx (X : jm_X) (n d : Nat) (B : Nat × Nat) (n0 t0 : Nat) : Prop :=
  p.tables.exec = Jvm.exec ∧ c.code = jm_co n ∧ c.maxLocals = jm_ma n ∧ s.vm.findClass (jm_CN (jm_ow n)) = some m.cls ∧ jm_Env D aC s ∧ jm_Ext ba ex X s s.heap ∧ s.heap.size = ba + n0 ∧ (jm_ki n = 2 → meth.name = "<init>") ∧ d + 1 ≤ R.frames ∧ 64 * (d + 1) ≤ R.locals ∧ B.1 ≤ n0 + R.cells ∧ B.2 ≤ t0 + R.slots
def jm_It (P : List jm_E) (n : Nat) (B : Nat × Nat) (n0 t0 : Nat) (Qz : State → Prop) : jm_K := fun i L st h =>
  ∀ e' : jm_E, P[i]? = some e' → ∀ (H : Heap) (locs : List Loc) (cells slots : Nat) (ls : Array Slot), jm_Sim D aC ba ex s B n0 t0 h H locs cells slots → jm_LR ba ex ls (jm_ma n) L → (∀ v ∈ st, jm_ok v) →
    W p l e R s m args below meth c H locs cells slots Qz (F0 m e'.1 ls (st.map (jm_rv ba ex)))
end JMC
end
section
section JMS
variable {p : Program} {l : Launch} {e : Env} {R : Room} {s : State} {m : MethodId} {args : Array Value} {below : List Frame} {meth : Method} {c : Code} {D : va_G} {aC : Nat → ClassId} {ba : Nat} {ex : Nat → Nat}
variable {X : jm_X} {n d : Nat} {B : Nat × Nat} {n0 t0 : Nat} {P : List jm_E} {Qz : State → Prop} {C : jm_C} {Q : jm_Q}
theorem jm_any {α : Type} {l : List α} {f : α → Bool} (h : l.any f = true) : ∃ q ∈ l, f q = true := List.any_eq_true.mp h
theorem jm_word {U : State} (hE : jm_Env D aC U) {w : Cond} (hw : w ∈ lw_tbl) (hg : goodWord w = true) (a : Array Value) : w.before a U = true := hE.1 w hw hg a
theorem jm_Tsb {U : State} (hE : jm_Env D aC U) (a : Array Value) : ∀ w ∈ jm_Ts, w.before a U = true := fun w hw => hE.1 w (List.mem_filter.mp hw).1 (List.mem_filter.mp hw).2 a

set_option maxHeartbeats 1000000 in
theorem jm_t_iconst {v : Int} (hC : jm_Cx p R s m meth c D aC ba ex X n d B n0 t0) {i : Nat} {pc len : Nat} {res : List Int} {L : jm_L} {st : List jm_V} {h : jm_H} (he : P[i]? = some (pc, .iconst v, len, res)) (hdc : decode (jm_co n) pc = .ok (.iconst v, len)) (hck : jm_chk n P i (pc, .iconst v, len, res) = true)
    (hs : jm_sem X C B Q (jm_It p l e R s m args below meth c D aC ba ex P n B n0 t0 Qz) (pc, .iconst v, len, res) i L st h) : jm_It p l e R s m args below meth c D aC ba ex P n B n0 t0 Qz i L st h := by
  intro e' he' H locs cells slots ls hS hL hst
  cases he.symm.trans he'
  obtain ⟨hx, hb, hml, hown, hE, hXt, hsz, hin, hfr, hlo, hBc, hBs⟩ := hC
  simp only [jm_chk, Bool.and_eq_true, decide_eq_true_eq] at hck
  simp only [jm_sem] at hs
  obtain ⟨hl1, e1, g1, g2⟩ := jm_c_spec hck.1
  dsimp only at hl1 g2
  subst hl1
  have kk := hs e1 g1 H locs cells slots ls hS hL (List.forall_mem_cons.mpr ⟨hck.2, hst⟩)
  rw [g2] at kk
  exact lv_iconst hx hb hdc rfl kk

set_option maxHeartbeats 1000000 in
theorem jm_t_bipush {v : Int} (hC : jm_Cx p R s m meth c D aC ba ex X n d B n0 t0) {i : Nat} {pc len : Nat} {res : List Int} {L : jm_L} {st : List jm_V} {h : jm_H} (he : P[i]? = some (pc, .bipush v, len, res)) (hdc : decode (jm_co n) pc = .ok (.bipush v, len)) (hck : jm_chk n P i (pc, .bipush v, len, res) = true)
    (hs : jm_sem X C B Q (jm_It p l e R s m args below meth c D aC ba ex P n B n0 t0 Qz) (pc, .bipush v, len, res) i L st h) : jm_It p l e R s m args below meth c D aC ba ex P n B n0 t0 Qz i L st h := by
  intro e' he' H locs cells slots ls hS hL hst
  cases he.symm.trans he'
  obtain ⟨hx, hb, hml, hown, hE, hXt, hsz, hin, hfr, hlo, hBc, hBs⟩ := hC
  simp only [jm_chk, Bool.and_eq_true, decide_eq_true_eq] at hck
  simp only [jm_sem] at hs
  obtain ⟨hl1, e1, g1, g2⟩ := jm_c_spec hck.1
  dsimp only at hl1 g2
  subst hl1
  have kk := hs e1 g1 H locs cells slots ls hS hL (List.forall_mem_cons.mpr ⟨hck.2.1, hst⟩)
  rw [g2] at kk
  exact lv_bipush hx hb hdc hck.2.2 kk

set_option maxHeartbeats 1000000 in
theorem jm_t_sipush {v : Int} (hC : jm_Cx p R s m meth c D aC ba ex X n d B n0 t0) {i : Nat} {pc len : Nat} {res : List Int} {L : jm_L} {st : List jm_V} {h : jm_H} (he : P[i]? = some (pc, .sipush v, len, res)) (hdc : decode (jm_co n) pc = .ok (.sipush v, len)) (hck : jm_chk n P i (pc, .sipush v, len, res) = true)
    (hs : jm_sem X C B Q (jm_It p l e R s m args below meth c D aC ba ex P n B n0 t0 Qz) (pc, .sipush v, len, res) i L st h) : jm_It p l e R s m args below meth c D aC ba ex P n B n0 t0 Qz i L st h := by
  intro e' he' H locs cells slots ls hS hL hst
  cases he.symm.trans he'
  obtain ⟨hx, hb, hml, hown, hE, hXt, hsz, hin, hfr, hlo, hBc, hBs⟩ := hC
  simp only [jm_chk, Bool.and_eq_true, decide_eq_true_eq] at hck
  simp only [jm_sem] at hs
  obtain ⟨hl1, e1, g1, g2⟩ := jm_c_spec hck.1
  dsimp only at hl1 g2
  subst hl1
  have kk := hs e1 g1 H locs cells slots ls hS hL (List.forall_mem_cons.mpr ⟨hck.2.1, hst⟩)
  rw [g2] at kk
  exact lv_sipush hx hb hdc hck.2.2 kk

set_option maxHeartbeats 1000000 in
theorem jm_t_ldc {x : Nat} (hC : jm_Cx p R s m meth c D aC ba ex X n d B n0 t0) {i : Nat} {pc len : Nat} {res : List Int} {L : jm_L} {st : List jm_V} {h : jm_H} (he : P[i]? = some (pc, .ldc x, len, res)) (hdc : decode (jm_co n) pc = .ok (.ldc x, len)) (hck : jm_chk n P i (pc, .ldc x, len, res) = true)
    (hs : jm_sem X C B Q (jm_It p l e R s m args below meth c D aC ba ex P n B n0 t0 Qz) (pc, .ldc x, len, res) i L st h) : jm_It p l e R s m args below meth c D aC ba ex P n B n0 t0 Qz i L st h := by
  intro e' he' H locs cells slots ls hS hL hst
  cases he.symm.trans he'
  obtain ⟨hx, hb, hml, hown, hE, hXt, hsz, hin, hfr, hlo, hBc, hBs⟩ := hC
  simp only [jm_chk, Bool.and_eq_true] at hck
  simp only [jm_sem] at hs
  obtain ⟨hc1, hc2⟩ := hck
  split at hs
  · rename_i v
    simp only [Bool.and_eq_true, decide_eq_true_eq] at hc2
    obtain ⟨q, hq, hq2⟩ := jm_any hc2.2
    simp only [Bool.and_eq_true, beq_iff_eq] at hq2
    have hw := List.all_eq_true.mp jm_kl_ok q hq
    have hw := jm_hw_in hw _ List.mem_cons_self
    have hk := jm_word hE hw rfl args
    obtain ⟨hl1, e1, g1, g2⟩ := jm_c_spec hc1
    dsimp only at hl1 g2
    subst hl1
    have kk := hs e1 g1 H locs cells slots ls hS hL (List.forall_mem_cons.mpr ⟨hc2.1, hst⟩)
    rw [g2] at kk
    obtain ⟨z1, z2, z3⟩ := hq2
    unfold jm_klw at hk
    rw [z1, z2, z3] at hk
    exact lv_ldc hx hb hown hk hdc kk
  · exact hs.elim

set_option maxHeartbeats 1000000 in
theorem jm_t_ldc_w {x : Nat} (hC : jm_Cx p R s m meth c D aC ba ex X n d B n0 t0) {i : Nat} {pc len : Nat} {res : List Int} {L : jm_L} {st : List jm_V} {h : jm_H} (he : P[i]? = some (pc, .ldc_w x, len, res)) (hdc : decode (jm_co n) pc = .ok (.ldc_w x, len)) (hck : jm_chk n P i (pc, .ldc_w x, len, res) = true)
    (hs : jm_sem X C B Q (jm_It p l e R s m args below meth c D aC ba ex P n B n0 t0 Qz) (pc, .ldc_w x, len, res) i L st h) : jm_It p l e R s m args below meth c D aC ba ex P n B n0 t0 Qz i L st h := by
  intro e' he' H locs cells slots ls hS hL hst
  cases he.symm.trans he'
  obtain ⟨hx, hb, hml, hown, hE, hXt, hsz, hin, hfr, hlo, hBc, hBs⟩ := hC
  simp only [jm_chk, Bool.and_eq_true] at hck
  simp only [jm_sem] at hs
  obtain ⟨hc1, hc2⟩ := hck
  split at hs
  · rename_i v
    simp only [Bool.and_eq_true, decide_eq_true_eq] at hc2
    obtain ⟨q, hq, hq2⟩ := jm_any hc2.2
    simp only [Bool.and_eq_true, beq_iff_eq] at hq2
    have hw := List.all_eq_true.mp jm_kl_ok q hq
    have hw := jm_hw_in hw _ List.mem_cons_self
    have hk := jm_word hE hw rfl args
    obtain ⟨hl1, e1, g1, g2⟩ := jm_c_spec hc1
    dsimp only at hl1 g2
    subst hl1
    have kk := hs e1 g1 H locs cells slots ls hS hL (List.forall_mem_cons.mpr ⟨hc2.1, hst⟩)
    rw [g2] at kk
    obtain ⟨z1, z2, z3⟩ := hq2
    unfold jm_klw at hk
    rw [z1, z2, z3] at hk
    exact lv_ldcw hx hb hown hk hdc kk
  · exact hs.elim

set_option maxHeartbeats 1000000 in
theorem jm_t_ldc2_w {x : Nat} (hC : jm_Cx p R s m meth c D aC ba ex X n d B n0 t0) {i : Nat} {pc len : Nat} {res : List Int} {L : jm_L} {st : List jm_V} {h : jm_H} (he : P[i]? = some (pc, .ldc2_w x, len, res)) (hdc : decode (jm_co n) pc = .ok (.ldc2_w x, len)) (hck : jm_chk n P i (pc, .ldc2_w x, len, res) = true)
    (hs : jm_sem X C B Q (jm_It p l e R s m args below meth c D aC ba ex P n B n0 t0 Qz) (pc, .ldc2_w x, len, res) i L st h) : jm_It p l e R s m args below meth c D aC ba ex P n B n0 t0 Qz i L st h := by
  intro e' he' H locs cells slots ls hS hL hst
  cases he.symm.trans he'
  obtain ⟨hx, hb, hml, hown, hE, hXt, hsz, hin, hfr, hlo, hBc, hBs⟩ := hC
  simp only [jm_chk, Bool.and_eq_true] at hck
  simp only [jm_sem] at hs
  obtain ⟨hc1, hc2⟩ := hck
  split at hs
  · rename_i v
    simp only [Bool.and_eq_true, decide_eq_true_eq] at hc2
    obtain ⟨q, hq, hq2⟩ := jm_any hc2.2
    simp only [Bool.and_eq_true, beq_iff_eq] at hq2
    have hw := List.all_eq_true.mp jm_jl_ok q hq
    have hw := jm_hw_in hw _ List.mem_cons_self
    have hk := jm_word hE hw rfl args
    obtain ⟨hl1, e1, g1, g2⟩ := jm_c_spec hc1
    dsimp only at hl1 g2
    subst hl1
    have kk := hs e1 g1 H locs cells slots ls hS hL (List.forall_mem_cons.mpr ⟨hc2.1, hst⟩)
    rw [g2] at kk
    obtain ⟨z1, z2, z3⟩ := hq2
    unfold jm_jlw at hk
    rw [z1, z2, z3] at hk
    exact lv_ldc2 hx hb hown hk hdc kk
  · exact hs.elim

set_option maxHeartbeats 1000000 in
theorem jm_t_lconst {v : Fin 2} (hC : jm_Cx p R s m meth c D aC ba ex X n d B n0 t0) {i : Nat} {pc len : Nat} {res : List Int} {L : jm_L} {st : List jm_V} {h : jm_H} (he : P[i]? = some (pc, .lconst v, len, res)) (hdc : decode (jm_co n) pc = .ok (.lconst v, len)) (hck : jm_chk n P i (pc, .lconst v, len, res) = true)
    (hs : jm_sem X C B Q (jm_It p l e R s m args below meth c D aC ba ex P n B n0 t0 Qz) (pc, .lconst v, len, res) i L st h) : jm_It p l e R s m args below meth c D aC ba ex P n B n0 t0 Qz i L st h := by
  intro e' he' H locs cells slots ls hS hL hst
  cases he.symm.trans he'
  obtain ⟨hx, hb, hml, hown, hE, hXt, hsz, hin, hfr, hlo, hBc, hBs⟩ := hC
  simp only [jm_chk] at hck
  simp only [jm_sem] at hs
  obtain ⟨hl1, e1, g1, g2⟩ := jm_c_spec hck
  dsimp only at hl1 g2
  subst hl1
  have hv : jm_rl (v.val : Int) := by have := v.isLt; exact ⟨by omega, by omega⟩
  have kk := hs e1 g1 H locs cells slots ls hS hL (List.forall_mem_cons.mpr ⟨hv, hst⟩)
  rw [g2] at kk
  exact lv_lconst hx hb hdc (by rw [← Int64.ofInt_eq_ofNat]) kk

set_option maxHeartbeats 1000000 in
theorem jm_t_iload {k : Nat} (hC : jm_Cx p R s m meth c D aC ba ex X n d B n0 t0) {i : Nat} {pc len : Nat} {res : List Int} {L : jm_L} {st : List jm_V} {h : jm_H} (he : P[i]? = some (pc, .iload k, len, res)) (hdc : decode (jm_co n) pc = .ok (.iload k, len)) (hck : jm_chk n P i (pc, .iload k, len, res) = true)
    (hs : jm_sem X C B Q (jm_It p l e R s m args below meth c D aC ba ex P n B n0 t0 Qz) (pc, .iload k, len, res) i L st h) : jm_It p l e R s m args below meth c D aC ba ex P n B n0 t0 Qz i L st h := by
  intro e' he' H locs cells slots ls hS hL hst
  cases he.symm.trans he'
  obtain ⟨hx, hb, hml, hown, hE, hXt, hsz, hin, hfr, hlo, hBc, hBs⟩ := hC
  simp only [jm_chk] at hck
  simp only [jm_sem] at hs
  obtain ⟨hl1, e1, g1, g2⟩ := jm_c_spec hck
  dsimp only at hl1 g2
  subst hl1
  split at hs
  · rename_i z hz
    obtain ⟨hl2, hv⟩ := hL.2.2 _ _ hz
    have kk := hs e1 g1 H locs cells slots ls hS hL (List.forall_mem_cons.mpr ⟨hv, hst⟩)
    rw [g2] at kk
    exact lv_iload hx hb hdc hl2 kk
  · exact hs.elim

set_option maxHeartbeats 1000000 in
theorem jm_t_iload_n {k : Fin 4} (hC : jm_Cx p R s m meth c D aC ba ex X n d B n0 t0) {i : Nat} {pc len : Nat} {res : List Int} {L : jm_L} {st : List jm_V} {h : jm_H} (he : P[i]? = some (pc, .iload_n k, len, res)) (hdc : decode (jm_co n) pc = .ok (.iload_n k, len)) (hck : jm_chk n P i (pc, .iload_n k, len, res) = true)
    (hs : jm_sem X C B Q (jm_It p l e R s m args below meth c D aC ba ex P n B n0 t0 Qz) (pc, .iload_n k, len, res) i L st h) : jm_It p l e R s m args below meth c D aC ba ex P n B n0 t0 Qz i L st h := by
  intro e' he' H locs cells slots ls hS hL hst
  cases he.symm.trans he'
  obtain ⟨hx, hb, hml, hown, hE, hXt, hsz, hin, hfr, hlo, hBc, hBs⟩ := hC
  simp only [jm_chk] at hck
  simp only [jm_sem] at hs
  obtain ⟨hl1, e1, g1, g2⟩ := jm_c_spec hck
  dsimp only at hl1 g2
  subst hl1
  split at hs
  · rename_i z hz
    obtain ⟨hl2, hv⟩ := hL.2.2 _ _ hz
    have kk := hs e1 g1 H locs cells slots ls hS hL (List.forall_mem_cons.mpr ⟨hv, hst⟩)
    rw [g2] at kk
    exact lv_iload_n hx hb hdc rfl hl2 kk
  · exact hs.elim

set_option maxHeartbeats 1000000 in
theorem jm_t_lload {k : Nat} (hC : jm_Cx p R s m meth c D aC ba ex X n d B n0 t0) {i : Nat} {pc len : Nat} {res : List Int} {L : jm_L} {st : List jm_V} {h : jm_H} (he : P[i]? = some (pc, .lload k, len, res)) (hdc : decode (jm_co n) pc = .ok (.lload k, len)) (hck : jm_chk n P i (pc, .lload k, len, res) = true)
    (hs : jm_sem X C B Q (jm_It p l e R s m args below meth c D aC ba ex P n B n0 t0 Qz) (pc, .lload k, len, res) i L st h) : jm_It p l e R s m args below meth c D aC ba ex P n B n0 t0 Qz i L st h := by
  intro e' he' H locs cells slots ls hS hL hst
  cases he.symm.trans he'
  obtain ⟨hx, hb, hml, hown, hE, hXt, hsz, hin, hfr, hlo, hBc, hBs⟩ := hC
  simp only [jm_chk] at hck
  simp only [jm_sem] at hs
  obtain ⟨hl1, e1, g1, g2⟩ := jm_c_spec hck
  dsimp only at hl1 g2
  subst hl1
  split at hs
  · rename_i z hz
    obtain ⟨hl2, hv⟩ := hL.2.2 _ _ hz
    have kk := hs e1 g1 H locs cells slots ls hS hL (List.forall_mem_cons.mpr ⟨hv, hst⟩)
    rw [g2] at kk
    exact lv_lload hx hb hdc hl2 kk
  · exact hs.elim

set_option maxHeartbeats 1000000 in
theorem jm_t_lload_n {k : Fin 4} (hC : jm_Cx p R s m meth c D aC ba ex X n d B n0 t0) {i : Nat} {pc len : Nat} {res : List Int} {L : jm_L} {st : List jm_V} {h : jm_H} (he : P[i]? = some (pc, .lload_n k, len, res)) (hdc : decode (jm_co n) pc = .ok (.lload_n k, len)) (hck : jm_chk n P i (pc, .lload_n k, len, res) = true)
    (hs : jm_sem X C B Q (jm_It p l e R s m args below meth c D aC ba ex P n B n0 t0 Qz) (pc, .lload_n k, len, res) i L st h) : jm_It p l e R s m args below meth c D aC ba ex P n B n0 t0 Qz i L st h := by
  intro e' he' H locs cells slots ls hS hL hst
  cases he.symm.trans he'
  obtain ⟨hx, hb, hml, hown, hE, hXt, hsz, hin, hfr, hlo, hBc, hBs⟩ := hC
  simp only [jm_chk] at hck
  simp only [jm_sem] at hs
  obtain ⟨hl1, e1, g1, g2⟩ := jm_c_spec hck
  dsimp only at hl1 g2
  subst hl1
  split at hs
  · rename_i z hz
    obtain ⟨hl2, hv⟩ := hL.2.2 _ _ hz
    have kk := hs e1 g1 H locs cells slots ls hS hL (List.forall_mem_cons.mpr ⟨hv, hst⟩)
    rw [g2] at kk
    exact lv_lload_n hx hb hdc rfl hl2 kk
  · exact hs.elim

set_option maxHeartbeats 1000000 in
theorem jm_t_aload {k : Nat} (hC : jm_Cx p R s m meth c D aC ba ex X n d B n0 t0) {i : Nat} {pc len : Nat} {res : List Int} {L : jm_L} {st : List jm_V} {h : jm_H} (he : P[i]? = some (pc, .aload k, len, res)) (hdc : decode (jm_co n) pc = .ok (.aload k, len)) (hck : jm_chk n P i (pc, .aload k, len, res) = true)
    (hs : jm_sem X C B Q (jm_It p l e R s m args below meth c D aC ba ex P n B n0 t0 Qz) (pc, .aload k, len, res) i L st h) : jm_It p l e R s m args below meth c D aC ba ex P n B n0 t0 Qz i L st h := by
  intro e' he' H locs cells slots ls hS hL hst
  cases he.symm.trans he'
  obtain ⟨hx, hb, hml, hown, hE, hXt, hsz, hin, hfr, hlo, hBc, hBs⟩ := hC
  simp only [jm_chk] at hck
  simp only [jm_sem] at hs
  obtain ⟨hl1, e1, g1, g2⟩ := jm_c_spec hck
  dsimp only at hl1 g2
  subst hl1
  split at hs
  · rename_i z hz
    obtain ⟨hl2, hv⟩ := hL.2.2 _ _ hz
    obtain ⟨hne, hs⟩ := hs
    obtain ⟨x, hx2⟩ := jm_rv_ref (ba := ba) (ex := ex) hne
    have kk := hs e1 g1 H locs cells slots ls hS hL (List.forall_mem_cons.mpr ⟨hv, hst⟩)
    rw [g2, List.map_cons, hx2] at kk
    rw [hx2] at hl2
    exact lv_aload hx hb hdc hl2 kk
  · exact hs.elim

set_option maxHeartbeats 1000000 in
theorem jm_t_aload_n {k : Fin 4} (hC : jm_Cx p R s m meth c D aC ba ex X n d B n0 t0) {i : Nat} {pc len : Nat} {res : List Int} {L : jm_L} {st : List jm_V} {h : jm_H} (he : P[i]? = some (pc, .aload_n k, len, res)) (hdc : decode (jm_co n) pc = .ok (.aload_n k, len)) (hck : jm_chk n P i (pc, .aload_n k, len, res) = true)
    (hs : jm_sem X C B Q (jm_It p l e R s m args below meth c D aC ba ex P n B n0 t0 Qz) (pc, .aload_n k, len, res) i L st h) : jm_It p l e R s m args below meth c D aC ba ex P n B n0 t0 Qz i L st h := by
  intro e' he' H locs cells slots ls hS hL hst
  cases he.symm.trans he'
  obtain ⟨hx, hb, hml, hown, hE, hXt, hsz, hin, hfr, hlo, hBc, hBs⟩ := hC
  simp only [jm_chk] at hck
  simp only [jm_sem] at hs
  obtain ⟨hl1, e1, g1, g2⟩ := jm_c_spec hck
  dsimp only at hl1 g2
  subst hl1
  split at hs
  · rename_i z hz
    obtain ⟨hl2, hv⟩ := hL.2.2 _ _ hz
    obtain ⟨hne, hs⟩ := hs
    obtain ⟨x, hx2⟩ := jm_rv_ref (ba := ba) (ex := ex) hne
    have kk := hs e1 g1 H locs cells slots ls hS hL (List.forall_mem_cons.mpr ⟨hv, hst⟩)
    rw [g2, List.map_cons, hx2] at kk
    rw [hx2] at hl2
    exact lv_aload_n hx hb hdc rfl hl2 kk
  · exact hs.elim

set_option maxHeartbeats 1000000 in
theorem jm_t_istore {k : Nat} (hC : jm_Cx p R s m meth c D aC ba ex X n d B n0 t0) {i : Nat} {pc len : Nat} {res : List Int} {L : jm_L} {st : List jm_V} {h : jm_H} (he : P[i]? = some (pc, .istore k, len, res)) (hdc : decode (jm_co n) pc = .ok (.istore k, len)) (hck : jm_chk n P i (pc, .istore k, len, res) = true)
    (hs : jm_sem X C B Q (jm_It p l e R s m args below meth c D aC ba ex P n B n0 t0 Qz) (pc, .istore k, len, res) i L st h) : jm_It p l e R s m args below meth c D aC ba ex P n B n0 t0 Qz i L st h := by
  intro e' he' H locs cells slots ls hS hL hst
  cases he.symm.trans he'
  obtain ⟨hx, hb, hml, hown, hE, hXt, hsz, hin, hfr, hlo, hBc, hBs⟩ := hC
  simp only [jm_chk, Bool.and_eq_true, decide_eq_true_eq] at hck
  simp only [jm_sem] at hs
  obtain ⟨hc1, hc2⟩ := hck
  obtain ⟨hl1, e1, g1, g2⟩ := jm_c_spec hc1
  dsimp only at hl1 g2
  subst hl1
  split at hs
  · rename_i z r
    obtain ⟨hv, hst⟩ := List.forall_mem_cons.mp hst
    refine lv_istore hx hb hdc hL.has hc2 rfl (fun ls' hl' => ?_)
    have kk := hs e1 g1 H locs cells slots ls' hS (jm_LR.store hv (fun k v h => (hL.2.2 k v h).2) hl') hst
    rw [g2] at kk
    exact kk
  · exact hs.elim

set_option maxHeartbeats 1000000 in
theorem jm_t_istore_n {k : Fin 4} (hC : jm_Cx p R s m meth c D aC ba ex X n d B n0 t0) {i : Nat} {pc len : Nat} {res : List Int} {L : jm_L} {st : List jm_V} {h : jm_H} (he : P[i]? = some (pc, .istore_n k, len, res)) (hdc : decode (jm_co n) pc = .ok (.istore_n k, len)) (hck : jm_chk n P i (pc, .istore_n k, len, res) = true)
    (hs : jm_sem X C B Q (jm_It p l e R s m args below meth c D aC ba ex P n B n0 t0 Qz) (pc, .istore_n k, len, res) i L st h) : jm_It p l e R s m args below meth c D aC ba ex P n B n0 t0 Qz i L st h := by
  intro e' he' H locs cells slots ls hS hL hst
  cases he.symm.trans he'
  obtain ⟨hx, hb, hml, hown, hE, hXt, hsz, hin, hfr, hlo, hBc, hBs⟩ := hC
  simp only [jm_chk, Bool.and_eq_true, decide_eq_true_eq] at hck
  simp only [jm_sem] at hs
  obtain ⟨hc1, hc2⟩ := hck
  obtain ⟨hl1, e1, g1, g2⟩ := jm_c_spec hc1
  dsimp only at hl1 g2
  subst hl1
  split at hs
  · rename_i z r
    obtain ⟨hv, hst⟩ := List.forall_mem_cons.mp hst
    refine lv_istore_n hx hb hdc rfl hL.has hc2 rfl (fun ls' hl' => ?_)
    have kk := hs e1 g1 H locs cells slots ls' hS (jm_LR.store hv (fun k v h => (hL.2.2 k v h).2) hl') hst
    rw [g2] at kk
    exact kk
  · exact hs.elim

set_option maxHeartbeats 1000000 in
theorem jm_t_lstore {k : Nat} (hC : jm_Cx p R s m meth c D aC ba ex X n d B n0 t0) {i : Nat} {pc len : Nat} {res : List Int} {L : jm_L} {st : List jm_V} {h : jm_H} (he : P[i]? = some (pc, .lstore k, len, res)) (hdc : decode (jm_co n) pc = .ok (.lstore k, len)) (hck : jm_chk n P i (pc, .lstore k, len, res) = true)
    (hs : jm_sem X C B Q (jm_It p l e R s m args below meth c D aC ba ex P n B n0 t0 Qz) (pc, .lstore k, len, res) i L st h) : jm_It p l e R s m args below meth c D aC ba ex P n B n0 t0 Qz i L st h := by
  intro e' he' H locs cells slots ls hS hL hst
  cases he.symm.trans he'
  obtain ⟨hx, hb, hml, hown, hE, hXt, hsz, hin, hfr, hlo, hBc, hBs⟩ := hC
  simp only [jm_chk, Bool.and_eq_true, decide_eq_true_eq] at hck
  simp only [jm_sem] at hs
  obtain ⟨hc1, hc2⟩ := hck
  obtain ⟨hl1, e1, g1, g2⟩ := jm_c_spec hc1
  dsimp only at hl1 g2
  subst hl1
  split at hs
  · rename_i z r
    obtain ⟨hv, hst⟩ := List.forall_mem_cons.mp hst
    refine lv_lstore hx hb hdc hL.has hc2 rfl (fun ls' hl' => ?_)
    have kk := hs e1 g1 H locs cells slots ls' hS (jm_LR.store2 hv (fun k v h => (hL.2.2 k v h).2) hl') hst
    rw [g2] at kk
    exact kk
  · exact hs.elim

set_option maxHeartbeats 1000000 in
theorem jm_t_lstore_n {k : Fin 4} (hC : jm_Cx p R s m meth c D aC ba ex X n d B n0 t0) {i : Nat} {pc len : Nat} {res : List Int} {L : jm_L} {st : List jm_V} {h : jm_H} (he : P[i]? = some (pc, .lstore_n k, len, res)) (hdc : decode (jm_co n) pc = .ok (.lstore_n k, len)) (hck : jm_chk n P i (pc, .lstore_n k, len, res) = true)
    (hs : jm_sem X C B Q (jm_It p l e R s m args below meth c D aC ba ex P n B n0 t0 Qz) (pc, .lstore_n k, len, res) i L st h) : jm_It p l e R s m args below meth c D aC ba ex P n B n0 t0 Qz i L st h := by
  intro e' he' H locs cells slots ls hS hL hst
  cases he.symm.trans he'
  obtain ⟨hx, hb, hml, hown, hE, hXt, hsz, hin, hfr, hlo, hBc, hBs⟩ := hC
  simp only [jm_chk, Bool.and_eq_true, decide_eq_true_eq] at hck
  simp only [jm_sem] at hs
  obtain ⟨hc1, hc2⟩ := hck
  obtain ⟨hl1, e1, g1, g2⟩ := jm_c_spec hc1
  dsimp only at hl1 g2
  subst hl1
  split at hs
  · rename_i z r
    obtain ⟨hv, hst⟩ := List.forall_mem_cons.mp hst
    refine lv_lstore_n hx hb hdc rfl hL.has hc2 rfl (fun ls' hl' => ?_)
    have kk := hs e1 g1 H locs cells slots ls' hS (jm_LR.store2 hv (fun k v h => (hL.2.2 k v h).2) hl') hst
    rw [g2] at kk
    exact kk
  · exact hs.elim

set_option maxHeartbeats 1000000 in
theorem jm_t_astore {k : Nat} (hC : jm_Cx p R s m meth c D aC ba ex X n d B n0 t0) {i : Nat} {pc len : Nat} {res : List Int} {L : jm_L} {st : List jm_V} {h : jm_H} (he : P[i]? = some (pc, .astore k, len, res)) (hdc : decode (jm_co n) pc = .ok (.astore k, len)) (hck : jm_chk n P i (pc, .astore k, len, res) = true)
    (hs : jm_sem X C B Q (jm_It p l e R s m args below meth c D aC ba ex P n B n0 t0 Qz) (pc, .astore k, len, res) i L st h) : jm_It p l e R s m args below meth c D aC ba ex P n B n0 t0 Qz i L st h := by
  intro e' he' H locs cells slots ls hS hL hst
  cases he.symm.trans he'
  obtain ⟨hx, hb, hml, hown, hE, hXt, hsz, hin, hfr, hlo, hBc, hBs⟩ := hC
  simp only [jm_chk, Bool.and_eq_true, decide_eq_true_eq] at hck
  simp only [jm_sem] at hs
  obtain ⟨hc1, hc2⟩ := hck
  obtain ⟨hl1, e1, g1, g2⟩ := jm_c_spec hc1
  dsimp only at hl1 g2
  subst hl1
  split at hs
  · rename_i z r
    obtain ⟨hv, hst⟩ := List.forall_mem_cons.mp hst
    obtain ⟨hne, hs⟩ := hs
    obtain ⟨x, hx2⟩ := jm_rv_ref (ba := ba) (ex := ex) hne
    rw [List.map_cons, hx2]
    refine lv_astore hx hb hdc hL.has hc2 rfl (fun ls' hl' => ?_)
    rw [← hx2] at hl'
    have kk := hs e1 g1 H locs cells slots ls' hS (jm_LR.store hv (fun k v h => (hL.2.2 k v h).2) hl') hst
    rw [g2] at kk
    exact kk
  · exact hs.elim

set_option maxHeartbeats 1000000 in
theorem jm_t_astore_n {k : Fin 4} (hC : jm_Cx p R s m meth c D aC ba ex X n d B n0 t0) {i : Nat} {pc len : Nat} {res : List Int} {L : jm_L} {st : List jm_V} {h : jm_H} (he : P[i]? = some (pc, .astore_n k, len, res)) (hdc : decode (jm_co n) pc = .ok (.astore_n k, len)) (hck : jm_chk n P i (pc, .astore_n k, len, res) = true)
    (hs : jm_sem X C B Q (jm_It p l e R s m args below meth c D aC ba ex P n B n0 t0 Qz) (pc, .astore_n k, len, res) i L st h) : jm_It p l e R s m args below meth c D aC ba ex P n B n0 t0 Qz i L st h := by
  intro e' he' H locs cells slots ls hS hL hst
  cases he.symm.trans he'
  obtain ⟨hx, hb, hml, hown, hE, hXt, hsz, hin, hfr, hlo, hBc, hBs⟩ := hC
  simp only [jm_chk, Bool.and_eq_true, decide_eq_true_eq] at hck
  simp only [jm_sem] at hs
  obtain ⟨hc1, hc2⟩ := hck
  obtain ⟨hl1, e1, g1, g2⟩ := jm_c_spec hc1
  dsimp only at hl1 g2
  subst hl1
  split at hs
  · rename_i z r
    obtain ⟨hv, hst⟩ := List.forall_mem_cons.mp hst
    obtain ⟨hne, hs⟩ := hs
    obtain ⟨x, hx2⟩ := jm_rv_ref (ba := ba) (ex := ex) hne
    rw [List.map_cons, hx2]
    refine lv_astore_n hx hb hdc rfl hL.has hc2 rfl (fun ls' hl' => ?_)
    rw [← hx2] at hl'
    have kk := hs e1 g1 H locs cells slots ls' hS (jm_LR.store hv (fun k v h => (hL.2.2 k v h).2) hl') hst
    rw [g2] at kk
    exact kk
  · exact hs.elim

set_option maxHeartbeats 1000000 in
theorem jm_t_iinc {k : Nat} {v : Int} (hC : jm_Cx p R s m meth c D aC ba ex X n d B n0 t0) {i : Nat} {pc len : Nat} {res : List Int} {L : jm_L} {st : List jm_V} {h : jm_H} (he : P[i]? = some (pc, .iinc k v, len, res)) (hdc : decode (jm_co n) pc = .ok (.iinc k v, len)) (hck : jm_chk n P i (pc, .iinc k v, len, res) = true)
    (hs : jm_sem X C B Q (jm_It p l e R s m args below meth c D aC ba ex P n B n0 t0 Qz) (pc, .iinc k v, len, res) i L st h) : jm_It p l e R s m args below meth c D aC ba ex P n B n0 t0 Qz i L st h := by
  intro e' he' H locs cells slots ls hS hL hst
  cases he.symm.trans he'
  obtain ⟨hx, hb, hml, hown, hE, hXt, hsz, hin, hfr, hlo, hBc, hBs⟩ := hC
  simp only [jm_chk, Bool.and_eq_true, decide_eq_true_eq] at hck
  simp only [jm_sem] at hs
  obtain ⟨hc1, hc2⟩ := hck
  obtain ⟨hl1, e1, g1, g2⟩ := jm_c_spec hc1
  dsimp only at hl1 g2
  subst hl1
  split at hs
  · rename_i z hz
    obtain ⟨hr, hs⟩ := hs
    obtain ⟨a, ha⟩ := List.getElem?_of_mem (jm_as_mem (ba := ba) (ex := ex) (q := (k, jm_rv ba ex (.inl z))).mpr ⟨_, hz, rfl⟩)
    refine lv_iinc hx hb hdc hL.has ha rfl hc2 rfl (fun ls' hl' => ?_)
    rw [← Int32.ofInt_add] at hl'
    have kk := hs e1 g1 H locs cells slots ls' hS (jm_LR.store (v := .inl (z + v)) hr (fun k v h => (hL.2.2 k v h).2) hl') hst
    rw [g2] at kk
    exact kk
  · exact hs.elim

set_option maxHeartbeats 1000000 in
theorem jm_t_iadd (hC : jm_Cx p R s m meth c D aC ba ex X n d B n0 t0) {i : Nat} {pc len : Nat} {res : List Int} {L : jm_L} {st : List jm_V} {h : jm_H} (he : P[i]? = some (pc, .iadd, len, res)) (hdc : decode (jm_co n) pc = .ok (.iadd, len)) (hck : jm_chk n P i (pc, .iadd, len, res) = true)
    (hs : jm_sem X C B Q (jm_It p l e R s m args below meth c D aC ba ex P n B n0 t0 Qz) (pc, .iadd, len, res) i L st h) : jm_It p l e R s m args below meth c D aC ba ex P n B n0 t0 Qz i L st h := by
  intro e' he' H locs cells slots ls hS hL hst
  cases he.symm.trans he'
  obtain ⟨hx, hb, hml, hown, hE, hXt, hsz, hin, hfr, hlo, hBc, hBs⟩ := hC
  simp only [jm_chk] at hck
  simp only [jm_sem] at hs
  obtain ⟨hl1, e1, g1, g2⟩ := jm_c_spec hck
  dsimp only at hl1 g2
  subst hl1
  split at hs
  · rename_i b a r
    obtain ⟨vb, hst⟩ := List.forall_mem_cons.mp hst
    obtain ⟨va, hst⟩ := List.forall_mem_cons.mp hst
    obtain ⟨hr, hs⟩ := hs
    have kk := hs e1 g1 H locs cells slots ls hS hL (List.forall_mem_cons.mpr ⟨hr, hst⟩)
    rw [g2] at kk
    refine lv_iadd hx hb hdc ?_
    rw [← Int32.ofInt_add]
    exact kk
  · exact hs.elim

set_option maxHeartbeats 1000000 in
theorem jm_t_isub (hC : jm_Cx p R s m meth c D aC ba ex X n d B n0 t0) {i : Nat} {pc len : Nat} {res : List Int} {L : jm_L} {st : List jm_V} {h : jm_H} (he : P[i]? = some (pc, .isub, len, res)) (hdc : decode (jm_co n) pc = .ok (.isub, len)) (hck : jm_chk n P i (pc, .isub, len, res) = true)
    (hs : jm_sem X C B Q (jm_It p l e R s m args below meth c D aC ba ex P n B n0 t0 Qz) (pc, .isub, len, res) i L st h) : jm_It p l e R s m args below meth c D aC ba ex P n B n0 t0 Qz i L st h := by
  intro e' he' H locs cells slots ls hS hL hst
  cases he.symm.trans he'
  obtain ⟨hx, hb, hml, hown, hE, hXt, hsz, hin, hfr, hlo, hBc, hBs⟩ := hC
  simp only [jm_chk] at hck
  simp only [jm_sem] at hs
  obtain ⟨hl1, e1, g1, g2⟩ := jm_c_spec hck
  dsimp only at hl1 g2
  subst hl1
  split at hs
  · rename_i b a r
    obtain ⟨vb, hst⟩ := List.forall_mem_cons.mp hst
    obtain ⟨va, hst⟩ := List.forall_mem_cons.mp hst
    obtain ⟨hr, hs⟩ := hs
    have kk := hs e1 g1 H locs cells slots ls hS hL (List.forall_mem_cons.mpr ⟨hr, hst⟩)
    rw [g2] at kk
    refine lv_isub hx hb hdc ?_
    rw [← Int32.ofInt_sub]
    exact kk
  · exact hs.elim

set_option maxHeartbeats 1000000 in
theorem jm_t_imul (hC : jm_Cx p R s m meth c D aC ba ex X n d B n0 t0) {i : Nat} {pc len : Nat} {res : List Int} {L : jm_L} {st : List jm_V} {h : jm_H} (he : P[i]? = some (pc, .imul, len, res)) (hdc : decode (jm_co n) pc = .ok (.imul, len)) (hck : jm_chk n P i (pc, .imul, len, res) = true)
    (hs : jm_sem X C B Q (jm_It p l e R s m args below meth c D aC ba ex P n B n0 t0 Qz) (pc, .imul, len, res) i L st h) : jm_It p l e R s m args below meth c D aC ba ex P n B n0 t0 Qz i L st h := by
  intro e' he' H locs cells slots ls hS hL hst
  cases he.symm.trans he'
  obtain ⟨hx, hb, hml, hown, hE, hXt, hsz, hin, hfr, hlo, hBc, hBs⟩ := hC
  simp only [jm_chk] at hck
  simp only [jm_sem] at hs
  obtain ⟨hl1, e1, g1, g2⟩ := jm_c_spec hck
  dsimp only at hl1 g2
  subst hl1
  split at hs
  · rename_i b a r
    obtain ⟨vb, hst⟩ := List.forall_mem_cons.mp hst
    obtain ⟨va, hst⟩ := List.forall_mem_cons.mp hst
    obtain ⟨hr, hs⟩ := hs
    have kk := hs e1 g1 H locs cells slots ls hS hL (List.forall_mem_cons.mpr ⟨hr, hst⟩)
    rw [g2] at kk
    refine lv_imul hx hb hdc ?_
    rw [← Int32.ofInt_mul]
    exact kk
  · exact hs.elim

set_option maxHeartbeats 1000000 in
theorem jm_t_idiv (hC : jm_Cx p R s m meth c D aC ba ex X n d B n0 t0) {i : Nat} {pc len : Nat} {res : List Int} {L : jm_L} {st : List jm_V} {h : jm_H} (he : P[i]? = some (pc, .idiv, len, res)) (hdc : decode (jm_co n) pc = .ok (.idiv, len)) (hck : jm_chk n P i (pc, .idiv, len, res) = true)
    (hs : jm_sem X C B Q (jm_It p l e R s m args below meth c D aC ba ex P n B n0 t0 Qz) (pc, .idiv, len, res) i L st h) : jm_It p l e R s m args below meth c D aC ba ex P n B n0 t0 Qz i L st h := by
  intro e' he' H locs cells slots ls hS hL hst
  cases he.symm.trans he'
  obtain ⟨hx, hb, hml, hown, hE, hXt, hsz, hin, hfr, hlo, hBc, hBs⟩ := hC
  simp only [jm_chk] at hck
  simp only [jm_sem] at hs
  obtain ⟨hl1, e1, g1, g2⟩ := jm_c_spec hck
  dsimp only at hl1 g2
  subst hl1
  split at hs
  · rename_i b a r
    obtain ⟨vb, hst⟩ := List.forall_mem_cons.mp hst
    obtain ⟨va, hst⟩ := List.forall_mem_cons.mp hst
    obtain ⟨hr, hs⟩ := hs
    have kk := hs e1 g1 H locs cells slots ls hS hL (List.forall_mem_cons.mpr ⟨jm_rdiv va hr.1 hr.2, hst⟩)
    rw [g2] at kk
    refine lv_idiv hx hb hdc (fun q => by have := (jm_eq vb jm_r0).mp q; omega) ?_
    rw [jm_div va vb hr.1 hr.2]
    exact kk
  · exact hs.elim

set_option maxHeartbeats 1000000 in
theorem jm_t_irem (hC : jm_Cx p R s m meth c D aC ba ex X n d B n0 t0) {i : Nat} {pc len : Nat} {res : List Int} {L : jm_L} {st : List jm_V} {h : jm_H} (he : P[i]? = some (pc, .irem, len, res)) (hdc : decode (jm_co n) pc = .ok (.irem, len)) (hck : jm_chk n P i (pc, .irem, len, res) = true)
    (hs : jm_sem X C B Q (jm_It p l e R s m args below meth c D aC ba ex P n B n0 t0 Qz) (pc, .irem, len, res) i L st h) : jm_It p l e R s m args below meth c D aC ba ex P n B n0 t0 Qz i L st h := by
  intro e' he' H locs cells slots ls hS hL hst
  cases he.symm.trans he'
  obtain ⟨hx, hb, hml, hown, hE, hXt, hsz, hin, hfr, hlo, hBc, hBs⟩ := hC
  simp only [jm_chk] at hck
  simp only [jm_sem] at hs
  obtain ⟨hl1, e1, g1, g2⟩ := jm_c_spec hck
  dsimp only at hl1 g2
  subst hl1
  split at hs
  · rename_i b a r
    obtain ⟨vb, hst⟩ := List.forall_mem_cons.mp hst
    obtain ⟨va, hst⟩ := List.forall_mem_cons.mp hst
    obtain ⟨hr, hs⟩ := hs
    have kk := hs e1 g1 H locs cells slots ls hS hL (List.forall_mem_cons.mpr ⟨jm_rmod vb hr.2, hst⟩)
    rw [g2] at kk
    refine lv_irem hx hb hdc (fun q => by have := (jm_eq vb jm_r0).mp q; omega) ?_
    rw [jm_mod va vb hr.1 hr.2]
    exact kk
  · exact hs.elim

set_option maxHeartbeats 1000000 in
theorem jm_t_iand (hC : jm_Cx p R s m meth c D aC ba ex X n d B n0 t0) {i : Nat} {pc len : Nat} {res : List Int} {L : jm_L} {st : List jm_V} {h : jm_H} (he : P[i]? = some (pc, .iand, len, res)) (hdc : decode (jm_co n) pc = .ok (.iand, len)) (hck : jm_chk n P i (pc, .iand, len, res) = true)
    (hs : jm_sem X C B Q (jm_It p l e R s m args below meth c D aC ba ex P n B n0 t0 Qz) (pc, .iand, len, res) i L st h) : jm_It p l e R s m args below meth c D aC ba ex P n B n0 t0 Qz i L st h := by
  intro e' he' H locs cells slots ls hS hL hst
  cases he.symm.trans he'
  obtain ⟨hx, hb, hml, hown, hE, hXt, hsz, hin, hfr, hlo, hBc, hBs⟩ := hC
  simp only [jm_chk] at hck
  simp only [jm_sem] at hs
  obtain ⟨hl1, e1, g1, g2⟩ := jm_c_spec hck
  dsimp only at hl1 g2
  subst hl1
  split at hs
  · rename_i b a r
    obtain ⟨vb, hst⟩ := List.forall_mem_cons.mp hst
    obtain ⟨va, hst⟩ := List.forall_mem_cons.mp hst
    have kk := hs e1 g1 H locs cells slots ls hS hL (List.forall_mem_cons.mpr ⟨jm_rI _, hst⟩)
    rw [g2] at kk
    refine lv_iand hx hb hdc ?_
    simp only [List.map_cons, jm_rv, jm_and, Int32.ofInt_toInt] at kk
    exact kk
  · exact hs.elim

set_option maxHeartbeats 1000000 in
theorem jm_t_ior (hC : jm_Cx p R s m meth c D aC ba ex X n d B n0 t0) {i : Nat} {pc len : Nat} {res : List Int} {L : jm_L} {st : List jm_V} {h : jm_H} (he : P[i]? = some (pc, .ior, len, res)) (hdc : decode (jm_co n) pc = .ok (.ior, len)) (hck : jm_chk n P i (pc, .ior, len, res) = true)
    (hs : jm_sem X C B Q (jm_It p l e R s m args below meth c D aC ba ex P n B n0 t0 Qz) (pc, .ior, len, res) i L st h) : jm_It p l e R s m args below meth c D aC ba ex P n B n0 t0 Qz i L st h := by
  intro e' he' H locs cells slots ls hS hL hst
  cases he.symm.trans he'
  obtain ⟨hx, hb, hml, hown, hE, hXt, hsz, hin, hfr, hlo, hBc, hBs⟩ := hC
  simp only [jm_chk] at hck
  simp only [jm_sem] at hs
  obtain ⟨hl1, e1, g1, g2⟩ := jm_c_spec hck
  dsimp only at hl1 g2
  subst hl1
  split at hs
  · rename_i b a r
    obtain ⟨vb, hst⟩ := List.forall_mem_cons.mp hst
    obtain ⟨va, hst⟩ := List.forall_mem_cons.mp hst
    have kk := hs e1 g1 H locs cells slots ls hS hL (List.forall_mem_cons.mpr ⟨jm_rI _, hst⟩)
    rw [g2] at kk
    refine lv_ior hx hb hdc ?_
    simp only [List.map_cons, jm_rv, jm_or, Int32.ofInt_toInt] at kk
    exact kk
  · exact hs.elim

set_option maxHeartbeats 1000000 in
theorem jm_t_ixor (hC : jm_Cx p R s m meth c D aC ba ex X n d B n0 t0) {i : Nat} {pc len : Nat} {res : List Int} {L : jm_L} {st : List jm_V} {h : jm_H} (he : P[i]? = some (pc, .ixor, len, res)) (hdc : decode (jm_co n) pc = .ok (.ixor, len)) (hck : jm_chk n P i (pc, .ixor, len, res) = true)
    (hs : jm_sem X C B Q (jm_It p l e R s m args below meth c D aC ba ex P n B n0 t0 Qz) (pc, .ixor, len, res) i L st h) : jm_It p l e R s m args below meth c D aC ba ex P n B n0 t0 Qz i L st h := by
  intro e' he' H locs cells slots ls hS hL hst
  cases he.symm.trans he'
  obtain ⟨hx, hb, hml, hown, hE, hXt, hsz, hin, hfr, hlo, hBc, hBs⟩ := hC
  simp only [jm_chk] at hck
  simp only [jm_sem] at hs
  obtain ⟨hl1, e1, g1, g2⟩ := jm_c_spec hck
  dsimp only at hl1 g2
  subst hl1
  split at hs
  · rename_i b a r
    obtain ⟨vb, hst⟩ := List.forall_mem_cons.mp hst
    obtain ⟨va, hst⟩ := List.forall_mem_cons.mp hst
    have kk := hs e1 g1 H locs cells slots ls hS hL (List.forall_mem_cons.mpr ⟨jm_rI _, hst⟩)
    rw [g2] at kk
    refine lv_ixor hx hb hdc ?_
    simp only [List.map_cons, jm_rv, jm_xor, Int32.ofInt_toInt] at kk
    exact kk
  · exact hs.elim

set_option maxHeartbeats 1000000 in
theorem jm_t_ishl (hC : jm_Cx p R s m meth c D aC ba ex X n d B n0 t0) {i : Nat} {pc len : Nat} {res : List Int} {L : jm_L} {st : List jm_V} {h : jm_H} (he : P[i]? = some (pc, .ishl, len, res)) (hdc : decode (jm_co n) pc = .ok (.ishl, len)) (hck : jm_chk n P i (pc, .ishl, len, res) = true)
    (hs : jm_sem X C B Q (jm_It p l e R s m args below meth c D aC ba ex P n B n0 t0 Qz) (pc, .ishl, len, res) i L st h) : jm_It p l e R s m args below meth c D aC ba ex P n B n0 t0 Qz i L st h := by
  intro e' he' H locs cells slots ls hS hL hst
  cases he.symm.trans he'
  obtain ⟨hx, hb, hml, hown, hE, hXt, hsz, hin, hfr, hlo, hBc, hBs⟩ := hC
  simp only [jm_chk] at hck
  simp only [jm_sem] at hs
  obtain ⟨hl1, e1, g1, g2⟩ := jm_c_spec hck
  dsimp only at hl1 g2
  subst hl1
  split at hs
  · rename_i b a r
    obtain ⟨vb, hst⟩ := List.forall_mem_cons.mp hst
    obtain ⟨va, hst⟩ := List.forall_mem_cons.mp hst
    have kk := hs e1 g1 H locs cells slots ls hS hL (List.forall_mem_cons.mpr ⟨jm_rI _, hst⟩)
    rw [g2] at kk
    refine lv_ishl hx hb hdc ?_
    simp only [List.map_cons, jm_rv, jm_shl, Int32.ofInt_toInt] at kk
    exact kk
  · exact hs.elim

set_option maxHeartbeats 1000000 in
theorem jm_t_ishr (hC : jm_Cx p R s m meth c D aC ba ex X n d B n0 t0) {i : Nat} {pc len : Nat} {res : List Int} {L : jm_L} {st : List jm_V} {h : jm_H} (he : P[i]? = some (pc, .ishr, len, res)) (hdc : decode (jm_co n) pc = .ok (.ishr, len)) (hck : jm_chk n P i (pc, .ishr, len, res) = true)
    (hs : jm_sem X C B Q (jm_It p l e R s m args below meth c D aC ba ex P n B n0 t0 Qz) (pc, .ishr, len, res) i L st h) : jm_It p l e R s m args below meth c D aC ba ex P n B n0 t0 Qz i L st h := by
  intro e' he' H locs cells slots ls hS hL hst
  cases he.symm.trans he'
  obtain ⟨hx, hb, hml, hown, hE, hXt, hsz, hin, hfr, hlo, hBc, hBs⟩ := hC
  simp only [jm_chk] at hck
  simp only [jm_sem] at hs
  obtain ⟨hl1, e1, g1, g2⟩ := jm_c_spec hck
  dsimp only at hl1 g2
  subst hl1
  split at hs
  · rename_i b a r
    obtain ⟨vb, hst⟩ := List.forall_mem_cons.mp hst
    obtain ⟨va, hst⟩ := List.forall_mem_cons.mp hst
    have kk := hs e1 g1 H locs cells slots ls hS hL (List.forall_mem_cons.mpr ⟨jm_rI _, hst⟩)
    rw [g2] at kk
    refine lv_ishr hx hb hdc ?_
    simp only [List.map_cons, jm_rv, jm_shr, Int32.ofInt_toInt] at kk
    exact kk
  · exact hs.elim

set_option maxHeartbeats 1000000 in
theorem jm_t_iushr (hC : jm_Cx p R s m meth c D aC ba ex X n d B n0 t0) {i : Nat} {pc len : Nat} {res : List Int} {L : jm_L} {st : List jm_V} {h : jm_H} (he : P[i]? = some (pc, .iushr, len, res)) (hdc : decode (jm_co n) pc = .ok (.iushr, len)) (hck : jm_chk n P i (pc, .iushr, len, res) = true)
    (hs : jm_sem X C B Q (jm_It p l e R s m args below meth c D aC ba ex P n B n0 t0 Qz) (pc, .iushr, len, res) i L st h) : jm_It p l e R s m args below meth c D aC ba ex P n B n0 t0 Qz i L st h := by
  intro e' he' H locs cells slots ls hS hL hst
  cases he.symm.trans he'
  obtain ⟨hx, hb, hml, hown, hE, hXt, hsz, hin, hfr, hlo, hBc, hBs⟩ := hC
  simp only [jm_chk] at hck
  simp only [jm_sem] at hs
  obtain ⟨hl1, e1, g1, g2⟩ := jm_c_spec hck
  dsimp only at hl1 g2
  subst hl1
  split at hs
  · rename_i b a r
    obtain ⟨vb, hst⟩ := List.forall_mem_cons.mp hst
    obtain ⟨va, hst⟩ := List.forall_mem_cons.mp hst
    have kk := hs e1 g1 H locs cells slots ls hS hL (List.forall_mem_cons.mpr ⟨jm_rI _, hst⟩)
    rw [g2] at kk
    refine lv_iushr hx hb hdc rfl ?_
    simp only [List.map_cons, jm_rv, jm_ushr, Int32.ofInt_toInt] at kk
    exact kk
  · exact hs.elim

set_option maxHeartbeats 1000000 in
theorem jm_t_ladd (hC : jm_Cx p R s m meth c D aC ba ex X n d B n0 t0) {i : Nat} {pc len : Nat} {res : List Int} {L : jm_L} {st : List jm_V} {h : jm_H} (he : P[i]? = some (pc, .ladd, len, res)) (hdc : decode (jm_co n) pc = .ok (.ladd, len)) (hck : jm_chk n P i (pc, .ladd, len, res) = true)
    (hs : jm_sem X C B Q (jm_It p l e R s m args below meth c D aC ba ex P n B n0 t0 Qz) (pc, .ladd, len, res) i L st h) : jm_It p l e R s m args below meth c D aC ba ex P n B n0 t0 Qz i L st h := by
  intro e' he' H locs cells slots ls hS hL hst
  cases he.symm.trans he'
  obtain ⟨hx, hb, hml, hown, hE, hXt, hsz, hin, hfr, hlo, hBc, hBs⟩ := hC
  simp only [jm_chk] at hck
  simp only [jm_sem] at hs
  obtain ⟨hl1, e1, g1, g2⟩ := jm_c_spec hck
  dsimp only at hl1 g2
  subst hl1
  split at hs
  · rename_i b a r
    obtain ⟨vb, hst⟩ := List.forall_mem_cons.mp hst
    obtain ⟨va, hst⟩ := List.forall_mem_cons.mp hst
    obtain ⟨hr, hs⟩ := hs
    have kk := hs e1 g1 H locs cells slots ls hS hL (List.forall_mem_cons.mpr ⟨hr, hst⟩)
    rw [g2] at kk
    refine lv_ladd hx hb hdc ?_
    rw [← Int64.ofInt_add]
    exact kk
  · exact hs.elim

set_option maxHeartbeats 1000000 in
theorem jm_t_lmul (hC : jm_Cx p R s m meth c D aC ba ex X n d B n0 t0) {i : Nat} {pc len : Nat} {res : List Int} {L : jm_L} {st : List jm_V} {h : jm_H} (he : P[i]? = some (pc, .lmul, len, res)) (hdc : decode (jm_co n) pc = .ok (.lmul, len)) (hck : jm_chk n P i (pc, .lmul, len, res) = true)
    (hs : jm_sem X C B Q (jm_It p l e R s m args below meth c D aC ba ex P n B n0 t0 Qz) (pc, .lmul, len, res) i L st h) : jm_It p l e R s m args below meth c D aC ba ex P n B n0 t0 Qz i L st h := by
  intro e' he' H locs cells slots ls hS hL hst
  cases he.symm.trans he'
  obtain ⟨hx, hb, hml, hown, hE, hXt, hsz, hin, hfr, hlo, hBc, hBs⟩ := hC
  simp only [jm_chk] at hck
  simp only [jm_sem] at hs
  obtain ⟨hl1, e1, g1, g2⟩ := jm_c_spec hck
  dsimp only at hl1 g2
  subst hl1
  split at hs
  · rename_i b a r
    obtain ⟨vb, hst⟩ := List.forall_mem_cons.mp hst
    obtain ⟨va, hst⟩ := List.forall_mem_cons.mp hst
    obtain ⟨hr, hs⟩ := hs
    have kk := hs e1 g1 H locs cells slots ls hS hL (List.forall_mem_cons.mpr ⟨hr, hst⟩)
    rw [g2] at kk
    refine lv_lmul hx hb hdc ?_
    rw [← Int64.ofInt_mul]
    exact kk
  · exact hs.elim

set_option maxHeartbeats 1000000 in
theorem jm_t_lrem (hC : jm_Cx p R s m meth c D aC ba ex X n d B n0 t0) {i : Nat} {pc len : Nat} {res : List Int} {L : jm_L} {st : List jm_V} {h : jm_H} (he : P[i]? = some (pc, .lrem, len, res)) (hdc : decode (jm_co n) pc = .ok (.lrem, len)) (hck : jm_chk n P i (pc, .lrem, len, res) = true)
    (hs : jm_sem X C B Q (jm_It p l e R s m args below meth c D aC ba ex P n B n0 t0 Qz) (pc, .lrem, len, res) i L st h) : jm_It p l e R s m args below meth c D aC ba ex P n B n0 t0 Qz i L st h := by
  intro e' he' H locs cells slots ls hS hL hst
  cases he.symm.trans he'
  obtain ⟨hx, hb, hml, hown, hE, hXt, hsz, hin, hfr, hlo, hBc, hBs⟩ := hC
  simp only [jm_chk] at hck
  simp only [jm_sem] at hs
  obtain ⟨hl1, e1, g1, g2⟩ := jm_c_spec hck
  dsimp only at hl1 g2
  subst hl1
  split at hs
  · rename_i b a r
    obtain ⟨vb, hst⟩ := List.forall_mem_cons.mp hst
    obtain ⟨va, hst⟩ := List.forall_mem_cons.mp hst
    obtain ⟨hr, hs⟩ := hs
    have kk := hs e1 g1 H locs cells slots ls hS hL (List.forall_mem_cons.mpr ⟨jm_rlmod vb hr.2, hst⟩)
    rw [g2] at kk
    have hne : ¬ Int64.ofInt b = 0 := by
      intro q
      have h9 : (Int64.ofInt b).toInt = 0 := by rw [q]; rfl
      rw [jm_tl vb] at h9
      omega
    refine lv_lrem hx hb hdc hne ?_
    rw [jm_lmod va vb hr.1 hr.2]
    exact kk
  · exact hs.elim

set_option maxHeartbeats 1000000 in
theorem jm_t_lcmp (hC : jm_Cx p R s m meth c D aC ba ex X n d B n0 t0) {i : Nat} {pc len : Nat} {res : List Int} {L : jm_L} {st : List jm_V} {h : jm_H} (he : P[i]? = some (pc, .lcmp, len, res)) (hdc : decode (jm_co n) pc = .ok (.lcmp, len)) (hck : jm_chk n P i (pc, .lcmp, len, res) = true)
    (hs : jm_sem X C B Q (jm_It p l e R s m args below meth c D aC ba ex P n B n0 t0 Qz) (pc, .lcmp, len, res) i L st h) : jm_It p l e R s m args below meth c D aC ba ex P n B n0 t0 Qz i L st h := by
  intro e' he' H locs cells slots ls hS hL hst
  cases he.symm.trans he'
  obtain ⟨hx, hb, hml, hown, hE, hXt, hsz, hin, hfr, hlo, hBc, hBs⟩ := hC
  simp only [jm_chk] at hck
  simp only [jm_sem] at hs
  obtain ⟨hl1, e1, g1, g2⟩ := jm_c_spec hck
  dsimp only at hl1 g2
  subst hl1
  split at hs
  · rename_i b a r
    obtain ⟨vb, hst⟩ := List.forall_mem_cons.mp hst
    obtain ⟨va, hst⟩ := List.forall_mem_cons.mp hst
    have kk := hs e1 g1 H locs cells slots ls hS hL (List.forall_mem_cons.mpr ⟨jm_rc a b, hst⟩)
    rw [g2] at kk
    refine W.lcmp hx hb hdc ?_
    rw [jm_lc va vb]
    exact kk
  · exact hs.elim

set_option maxHeartbeats 1000000 in
theorem jm_t_ineg (hC : jm_Cx p R s m meth c D aC ba ex X n d B n0 t0) {i : Nat} {pc len : Nat} {res : List Int} {L : jm_L} {st : List jm_V} {h : jm_H} (he : P[i]? = some (pc, .ineg, len, res)) (hdc : decode (jm_co n) pc = .ok (.ineg, len)) (hck : jm_chk n P i (pc, .ineg, len, res) = true)
    (hs : jm_sem X C B Q (jm_It p l e R s m args below meth c D aC ba ex P n B n0 t0 Qz) (pc, .ineg, len, res) i L st h) : jm_It p l e R s m args below meth c D aC ba ex P n B n0 t0 Qz i L st h := by
  intro e' he' H locs cells slots ls hS hL hst
  cases he.symm.trans he'
  obtain ⟨hx, hb, hml, hown, hE, hXt, hsz, hin, hfr, hlo, hBc, hBs⟩ := hC
  simp only [jm_chk] at hck
  simp only [jm_sem] at hs
  obtain ⟨hl1, e1, g1, g2⟩ := jm_c_spec hck
  dsimp only at hl1 g2
  subst hl1
  split at hs
  · rename_i a r
    obtain ⟨va, hst⟩ := List.forall_mem_cons.mp hst
    obtain ⟨hr, hs⟩ := hs
    have kk := hs e1 g1 H locs cells slots ls hS hL (List.forall_mem_cons.mpr ⟨hr, hst⟩)
    rw [g2] at kk
    refine lv_ineg hx hb hdc ?_
    rw [Int32.neg_ofInt]
    exact kk
  · exact hs.elim

set_option maxHeartbeats 1000000 in
theorem jm_t_i2l (hC : jm_Cx p R s m meth c D aC ba ex X n d B n0 t0) {i : Nat} {pc len : Nat} {res : List Int} {L : jm_L} {st : List jm_V} {h : jm_H} (he : P[i]? = some (pc, .i2l, len, res)) (hdc : decode (jm_co n) pc = .ok (.i2l, len)) (hck : jm_chk n P i (pc, .i2l, len, res) = true)
    (hs : jm_sem X C B Q (jm_It p l e R s m args below meth c D aC ba ex P n B n0 t0 Qz) (pc, .i2l, len, res) i L st h) : jm_It p l e R s m args below meth c D aC ba ex P n B n0 t0 Qz i L st h := by
  intro e' he' H locs cells slots ls hS hL hst
  cases he.symm.trans he'
  obtain ⟨hx, hb, hml, hown, hE, hXt, hsz, hin, hfr, hlo, hBc, hBs⟩ := hC
  simp only [jm_chk] at hck
  simp only [jm_sem] at hs
  obtain ⟨hl1, e1, g1, g2⟩ := jm_c_spec hck
  dsimp only at hl1 g2
  subst hl1
  split at hs
  · rename_i a r
    obtain ⟨va, hst⟩ := List.forall_mem_cons.mp hst
    have kk := hs e1 g1 H locs cells slots ls hS hL (List.forall_mem_cons.mpr ⟨⟨by have h8 : jm_r a := va; omega, by have h8 : jm_r a := va; omega⟩, hst⟩)
    rw [g2] at kk
    exact lv_i2l hx hb hdc (jm_i2l va) kk
  · exact hs.elim

set_option maxHeartbeats 1000000 in
theorem jm_t_l2i (hC : jm_Cx p R s m meth c D aC ba ex X n d B n0 t0) {i : Nat} {pc len : Nat} {res : List Int} {L : jm_L} {st : List jm_V} {h : jm_H} (he : P[i]? = some (pc, .l2i, len, res)) (hdc : decode (jm_co n) pc = .ok (.l2i, len)) (hck : jm_chk n P i (pc, .l2i, len, res) = true)
    (hs : jm_sem X C B Q (jm_It p l e R s m args below meth c D aC ba ex P n B n0 t0 Qz) (pc, .l2i, len, res) i L st h) : jm_It p l e R s m args below meth c D aC ba ex P n B n0 t0 Qz i L st h := by
  intro e' he' H locs cells slots ls hS hL hst
  cases he.symm.trans he'
  obtain ⟨hx, hb, hml, hown, hE, hXt, hsz, hin, hfr, hlo, hBc, hBs⟩ := hC
  simp only [jm_chk] at hck
  simp only [jm_sem] at hs
  obtain ⟨hl1, e1, g1, g2⟩ := jm_c_spec hck
  dsimp only at hl1 g2
  subst hl1
  split at hs
  · rename_i a r
    obtain ⟨va, hst⟩ := List.forall_mem_cons.mp hst
    obtain ⟨hr, hs⟩ := hs
    have kk := hs e1 g1 H locs cells slots ls hS hL (List.forall_mem_cons.mpr ⟨hr, hst⟩)
    rw [g2] at kk
    exact lv_l2i hx hb hdc (by rw [Int64.toInt32_ofInt]) kk
  · exact hs.elim

set_option maxHeartbeats 1000000 in
theorem jm_t_i2b (hC : jm_Cx p R s m meth c D aC ba ex X n d B n0 t0) {i : Nat} {pc len : Nat} {res : List Int} {L : jm_L} {st : List jm_V} {h : jm_H} (he : P[i]? = some (pc, .i2b, len, res)) (hdc : decode (jm_co n) pc = .ok (.i2b, len)) (hck : jm_chk n P i (pc, .i2b, len, res) = true)
    (hs : jm_sem X C B Q (jm_It p l e R s m args below meth c D aC ba ex P n B n0 t0 Qz) (pc, .i2b, len, res) i L st h) : jm_It p l e R s m args below meth c D aC ba ex P n B n0 t0 Qz i L st h := by
  intro e' he' H locs cells slots ls hS hL hst
  cases he.symm.trans he'
  obtain ⟨hx, hb, hml, hown, hE, hXt, hsz, hin, hfr, hlo, hBc, hBs⟩ := hC
  simp only [jm_chk] at hck
  simp only [jm_sem] at hs
  obtain ⟨hl1, e1, g1, g2⟩ := jm_c_spec hck
  dsimp only at hl1 g2
  subst hl1
  split at hs
  · rename_i a r
    obtain ⟨va, hst⟩ := List.forall_mem_cons.mp hst
    have kk := hs e1 g1 H locs cells slots ls hS hL (List.forall_mem_cons.mpr ⟨jm_rb a, hst⟩)
    rw [g2] at kk
    exact lv_i2b hx hb hdc (jm_b va) kk
  · exact hs.elim

set_option maxHeartbeats 1000000 in
theorem jm_t_i2s (hC : jm_Cx p R s m meth c D aC ba ex X n d B n0 t0) {i : Nat} {pc len : Nat} {res : List Int} {L : jm_L} {st : List jm_V} {h : jm_H} (he : P[i]? = some (pc, .i2s, len, res)) (hdc : decode (jm_co n) pc = .ok (.i2s, len)) (hck : jm_chk n P i (pc, .i2s, len, res) = true)
    (hs : jm_sem X C B Q (jm_It p l e R s m args below meth c D aC ba ex P n B n0 t0 Qz) (pc, .i2s, len, res) i L st h) : jm_It p l e R s m args below meth c D aC ba ex P n B n0 t0 Qz i L st h := by
  intro e' he' H locs cells slots ls hS hL hst
  cases he.symm.trans he'
  obtain ⟨hx, hb, hml, hown, hE, hXt, hsz, hin, hfr, hlo, hBc, hBs⟩ := hC
  simp only [jm_chk] at hck
  simp only [jm_sem] at hs
  obtain ⟨hl1, e1, g1, g2⟩ := jm_c_spec hck
  dsimp only at hl1 g2
  subst hl1
  split at hs
  · rename_i a r
    obtain ⟨va, hst⟩ := List.forall_mem_cons.mp hst
    have kk := hs e1 g1 H locs cells slots ls hS hL (List.forall_mem_cons.mpr ⟨jm_rs a, hst⟩)
    rw [g2] at kk
    exact lv_i2s hx hb hdc (jm_s va) kk
  · exact hs.elim

set_option maxHeartbeats 1000000 in
theorem jm_t_dup (hC : jm_Cx p R s m meth c D aC ba ex X n d B n0 t0) {i : Nat} {pc len : Nat} {res : List Int} {L : jm_L} {st : List jm_V} {h : jm_H} (he : P[i]? = some (pc, .dup, len, res)) (hdc : decode (jm_co n) pc = .ok (.dup, len)) (hck : jm_chk n P i (pc, .dup, len, res) = true)
    (hs : jm_sem X C B Q (jm_It p l e R s m args below meth c D aC ba ex P n B n0 t0 Qz) (pc, .dup, len, res) i L st h) : jm_It p l e R s m args below meth c D aC ba ex P n B n0 t0 Qz i L st h := by
  intro e' he' H locs cells slots ls hS hL hst
  cases he.symm.trans he'
  obtain ⟨hx, hb, hml, hown, hE, hXt, hsz, hin, hfr, hlo, hBc, hBs⟩ := hC
  simp only [jm_chk] at hck
  simp only [jm_sem] at hs
  obtain ⟨hl1, e1, g1, g2⟩ := jm_c_spec hck
  dsimp only at hl1 g2
  subst hl1
  split at hs
  · rename_i a r
    have va := (List.forall_mem_cons.mp hst).1
    have kk := hs e1 g1 H locs cells slots ls hS hL (List.forall_mem_cons.mpr ⟨va, hst⟩)
    rw [g2] at kk
    exact lv_dup hx hb hdc rfl kk
  · rename_i a r
    have va := (List.forall_mem_cons.mp hst).1
    have kk := hs e1 g1 H locs cells slots ls hS hL (List.forall_mem_cons.mpr ⟨va, hst⟩)
    rw [g2] at kk
    exact lv_dup hx hb hdc (jm_ref_cat ba ex a) kk
  · exact hs.elim

set_option maxHeartbeats 1000000 in
theorem jm_t_dup2 (hC : jm_Cx p R s m meth c D aC ba ex X n d B n0 t0) {i : Nat} {pc len : Nat} {res : List Int} {L : jm_L} {st : List jm_V} {h : jm_H} (he : P[i]? = some (pc, .dup2, len, res)) (hdc : decode (jm_co n) pc = .ok (.dup2, len)) (hck : jm_chk n P i (pc, .dup2, len, res) = true)
    (hs : jm_sem X C B Q (jm_It p l e R s m args below meth c D aC ba ex P n B n0 t0 Qz) (pc, .dup2, len, res) i L st h) : jm_It p l e R s m args below meth c D aC ba ex P n B n0 t0 Qz i L st h := by
  intro e' he' H locs cells slots ls hS hL hst
  cases he.symm.trans he'
  obtain ⟨hx, hb, hml, hown, hE, hXt, hsz, hin, hfr, hlo, hBc, hBs⟩ := hC
  simp only [jm_chk] at hck
  simp only [jm_sem] at hs
  obtain ⟨hl1, e1, g1, g2⟩ := jm_c_spec hck
  dsimp only at hl1 g2
  subst hl1
  split at hs
  · rename_i a b r
    have h1 := List.forall_mem_cons.mp hst
    have h2 := List.forall_mem_cons.mp h1.2
    have kk := hs e1 g1 H locs cells slots ls hS hL (List.forall_mem_cons.mpr ⟨h1.1, List.forall_mem_cons.mpr ⟨h2.1, hst⟩⟩)
    rw [g2] at kk
    exact lv_dup2_11 hx hb hdc rfl (jm_ref_cat ba ex b) kk
  · exact hs.elim

set_option maxHeartbeats 1000000 in
theorem jm_t_pop (hC : jm_Cx p R s m meth c D aC ba ex X n d B n0 t0) {i : Nat} {pc len : Nat} {res : List Int} {L : jm_L} {st : List jm_V} {h : jm_H} (he : P[i]? = some (pc, .pop, len, res)) (hdc : decode (jm_co n) pc = .ok (.pop, len)) (hck : jm_chk n P i (pc, .pop, len, res) = true)
    (hs : jm_sem X C B Q (jm_It p l e R s m args below meth c D aC ba ex P n B n0 t0 Qz) (pc, .pop, len, res) i L st h) : jm_It p l e R s m args below meth c D aC ba ex P n B n0 t0 Qz i L st h := by
  intro e' he' H locs cells slots ls hS hL hst
  cases he.symm.trans he'
  obtain ⟨hx, hb, hml, hown, hE, hXt, hsz, hin, hfr, hlo, hBc, hBs⟩ := hC
  simp only [jm_chk] at hck
  simp only [jm_sem] at hs
  obtain ⟨hl1, e1, g1, g2⟩ := jm_c_spec hck
  dsimp only at hl1 g2
  subst hl1
  split at hs
  · rename_i a r
    have kk := hs e1 g1 H locs cells slots ls hS hL (List.forall_mem_cons.mp hst).2
    rw [g2] at kk
    exact lv_pop hx hb hdc rfl kk
  · exact hs.elim

set_option maxHeartbeats 1000000 in
theorem jm_t_ifCond {cd : Jvm.ClassFile.Cond} {off : Int} (hC : jm_Cx p R s m meth c D aC ba ex X n d B n0 t0) {i : Nat} {pc len : Nat} {res : List Int} {L : jm_L} {st : List jm_V} {h : jm_H} (he : P[i]? = some (pc, .ifCond cd off, len, res)) (hdc : decode (jm_co n) pc = .ok (.ifCond cd off, len)) (hck : jm_chk n P i (pc, .ifCond cd off, len, res) = true)
    (hs : jm_sem X C B Q (jm_It p l e R s m args below meth c D aC ba ex P n B n0 t0 Qz) (pc, .ifCond cd off, len, res) i L st h) : jm_It p l e R s m args below meth c D aC ba ex P n B n0 t0 Qz i L st h := by
  intro e' he' H locs cells slots ls hS hL hst
  cases he.symm.trans he'
  obtain ⟨hx, hb, hml, hown, hE, hXt, hsz, hin, hfr, hlo, hBc, hBs⟩ := hC
  simp only [jm_chk, Bool.and_eq_true] at hck
  simp only [jm_sem] at hs
  obtain ⟨hc1, hc2⟩ := hck
  obtain ⟨hl1, e1, g1, g2⟩ := jm_c_spec hc1
  dsimp only at hl1 g2
  subst hl1
  split at hs
  · rename_i a r t
    obtain ⟨va, hst⟩ := List.forall_mem_cons.mp hst
    have vb := jm_r0
    obtain ⟨e2, g3, g4⟩ := jm_jmp_spec hc2
    have k1 := fun q => hs.1 q e2 g3 H locs cells slots ls hS hL hst
    have k2 := fun q => hs.2 q e1 g1 H locs cells slots ls hS hL hst
    rw [g2] at k2
    cases cd
    case eq => exact lv_if_eq hx hb hdc g4 (fun q => k1 ((jm_eq va vb).mp q)) (fun q => k2 (fun z => q ((jm_eq va vb).mpr z)))
    case ne => exact lv_if_ne hx hb hdc g4 (fun q => k1 (fun z => q ((jm_eq va vb).mpr z))) (fun q => k2 (fun z => z ((jm_eq va vb).mp q)))
    case lt => exact lv_if_lt hx hb hdc g4 (fun q => k1 ((jm_lt va vb).mp q)) (fun q => k2 (fun z => q ((jm_lt va vb).mpr z)))
    case ge => exact lv_if_ge hx hb hdc g4 (fun q => k1 ((jm_le vb va).mp q)) (fun q => k2 (fun z => q ((jm_le vb va).mpr z)))
    case gt => exact lv_if_gt hx hb hdc g4 (fun q => k1 ((jm_lt vb va).mp q)) (fun q => k2 (fun z => q ((jm_lt vb va).mpr z)))
    case le => exact lv_if_le hx hb hdc g4 (fun q => k1 ((jm_le va vb).mp q)) (fun q => k2 (fun z => q ((jm_le va vb).mpr z)))
  · exact hs.elim

set_option maxHeartbeats 1000000 in
theorem jm_t_if_icmp {cd : Jvm.ClassFile.Cond} {off : Int} (hC : jm_Cx p R s m meth c D aC ba ex X n d B n0 t0) {i : Nat} {pc len : Nat} {res : List Int} {L : jm_L} {st : List jm_V} {h : jm_H} (he : P[i]? = some (pc, .if_icmp cd off, len, res)) (hdc : decode (jm_co n) pc = .ok (.if_icmp cd off, len)) (hck : jm_chk n P i (pc, .if_icmp cd off, len, res) = true)
    (hs : jm_sem X C B Q (jm_It p l e R s m args below meth c D aC ba ex P n B n0 t0 Qz) (pc, .if_icmp cd off, len, res) i L st h) : jm_It p l e R s m args below meth c D aC ba ex P n B n0 t0 Qz i L st h := by
  intro e' he' H locs cells slots ls hS hL hst
  cases he.symm.trans he'
  obtain ⟨hx, hb, hml, hown, hE, hXt, hsz, hin, hfr, hlo, hBc, hBs⟩ := hC
  simp only [jm_chk, Bool.and_eq_true] at hck
  simp only [jm_sem] at hs
  obtain ⟨hc1, hc2⟩ := hck
  obtain ⟨hl1, e1, g1, g2⟩ := jm_c_spec hc1
  dsimp only at hl1 g2
  subst hl1
  split at hs
  · rename_i b a r t
    obtain ⟨vb, hst⟩ := List.forall_mem_cons.mp hst
    obtain ⟨va, hst⟩ := List.forall_mem_cons.mp hst
    obtain ⟨e2, g3, g4⟩ := jm_jmp_spec hc2
    have k1 := fun q => hs.1 q e2 g3 H locs cells slots ls hS hL hst
    have k2 := fun q => hs.2 q e1 g1 H locs cells slots ls hS hL hst
    rw [g2] at k2
    cases cd
    case eq => exact lv_icmp_eq hx hb hdc g4 (fun q => k1 ((jm_eq va vb).mp q)) (fun q => k2 (fun z => q ((jm_eq va vb).mpr z)))
    case ne => exact lv_icmp_ne hx hb hdc g4 (fun q => k1 (fun z => q ((jm_eq va vb).mpr z))) (fun q => k2 (fun z => z ((jm_eq va vb).mp q)))
    case lt => exact lv_icmp_lt hx hb hdc g4 (fun q => k1 ((jm_lt va vb).mp q)) (fun q => k2 (fun z => q ((jm_lt va vb).mpr z)))
    case ge => exact lv_icmp_ge hx hb hdc g4 (fun q => k1 ((jm_le vb va).mp q)) (fun q => k2 (fun z => q ((jm_le vb va).mpr z)))
    case gt => exact lv_icmp_gt hx hb hdc g4 (fun q => k1 ((jm_lt vb va).mp q)) (fun q => k2 (fun z => q ((jm_lt vb va).mpr z)))
    case le => exact lv_icmp_le hx hb hdc g4 (fun q => k1 ((jm_le va vb).mp q)) (fun q => k2 (fun z => q ((jm_le va vb).mpr z)))
  · exact hs.elim

set_option maxHeartbeats 1000000 in
theorem jm_t_goto {off : Int} (hC : jm_Cx p R s m meth c D aC ba ex X n d B n0 t0) {i : Nat} {pc len : Nat} {res : List Int} {L : jm_L} {st : List jm_V} {h : jm_H} (he : P[i]? = some (pc, .goto off, len, res)) (hdc : decode (jm_co n) pc = .ok (.goto off, len)) (hck : jm_chk n P i (pc, .goto off, len, res) = true)
    (hs : jm_sem X C B Q (jm_It p l e R s m args below meth c D aC ba ex P n B n0 t0 Qz) (pc, .goto off, len, res) i L st h) : jm_It p l e R s m args below meth c D aC ba ex P n B n0 t0 Qz i L st h := by
  intro e' he' H locs cells slots ls hS hL hst
  cases he.symm.trans he'
  obtain ⟨hx, hb, hml, hown, hE, hXt, hsz, hin, hfr, hlo, hBc, hBs⟩ := hC
  simp only [jm_chk, Bool.and_eq_true, beq_iff_eq] at hck
  simp only [jm_sem] at hs
  obtain ⟨hc1, hc2⟩ := hck
  subst hc1
  split at hs
  · obtain ⟨e2, g3, g4⟩ := jm_jmp_spec hc2
    exact lv_goto hx hb hdc g4 (hs e2 g3 H locs cells slots ls hS hL hst)
  · exact hs.elim

set_option maxHeartbeats 1000000 in
theorem jm_t_tableswitch {dd lo hi : Int} {offs : Array Int} (hC : jm_Cx p R s m meth c D aC ba ex X n d B n0 t0) {i : Nat} {pc len : Nat} {res : List Int} {L : jm_L} {st : List jm_V} {h : jm_H} (he : P[i]? = some (pc, .tableswitch dd lo hi offs, len, res)) (hdc : decode (jm_co n) pc = .ok (.tableswitch dd lo hi offs, len)) (hck : jm_chk n P i (pc, .tableswitch dd lo hi offs, len, res) = true)
    (hs : jm_sem X C B Q (jm_It p l e R s m args below meth c D aC ba ex P n B n0 t0 Qz) (pc, .tableswitch dd lo hi offs, len, res) i L st h) : jm_It p l e R s m args below meth c D aC ba ex P n B n0 t0 Qz i L st h := by
  intro e' he' H locs cells slots ls hS hL hst
  cases he.symm.trans he'
  obtain ⟨hx, hb, hml, hown, hE, hXt, hsz, hin, hfr, hlo, hBc, hBs⟩ := hC
  simp only [jm_chk, Bool.and_eq_true, decide_eq_true_eq] at hck
  simp only [jm_sem] at hs
  obtain ⟨hc1, hc2⟩ := hck
  split at hs
  · rename_i a r
    obtain ⟨va, hst⟩ := List.forall_mem_cons.mp hst
    have va : jm_r a := va
    rcases jm_ckt_spec lo offs.toList res hc2 hs with ⟨j, off, t, e1, e2, e3, e4⟩ | ⟨e1, t, e3, e4⟩
    · obtain ⟨e5, g3, g4⟩ := jm_jmp_spec e3
      have hj : j < offs.toList.length := (List.getElem?_eq_some_iff.mp e2).1
      refine lv_tableIn hx hb hdc (by rw [jm_ti va]; omega) (by rw [jm_ti va]; omega) (off := off) ?_ g4 (e4 e5 g3 H locs cells slots ls hS hL hst)
      rw [jm_ti va, e1, show (lo + (j : Int) - lo).toNat = j by omega, ← Array.getElem?_toList]
      exact e2
    · obtain ⟨e5, g3, g4⟩ := jm_jmp_spec e3
      exact lv_tableOut hx hb hdc (by rw [jm_ti va]; omega) g4 (e4 e5 g3 H locs cells slots ls hS hL hst)
  · exact hs.elim

set_option maxHeartbeats 1000000 in
theorem jm_t_lookupswitch {dd : Int} {ps : Array (Int × Int)} (hC : jm_Cx p R s m meth c D aC ba ex X n d B n0 t0) {i : Nat} {pc len : Nat} {res : List Int} {L : jm_L} {st : List jm_V} {h : jm_H} (he : P[i]? = some (pc, .lookupswitch dd ps, len, res)) (hdc : decode (jm_co n) pc = .ok (.lookupswitch dd ps, len)) (hck : jm_chk n P i (pc, .lookupswitch dd ps, len, res) = true)
    (hs : jm_sem X C B Q (jm_It p l e R s m args below meth c D aC ba ex P n B n0 t0 Qz) (pc, .lookupswitch dd ps, len, res) i L st h) : jm_It p l e R s m args below meth c D aC ba ex P n B n0 t0 Qz i L st h := by
  intro e' he' H locs cells slots ls hS hL hst
  cases he.symm.trans he'
  obtain ⟨hx, hb, hml, hown, hE, hXt, hsz, hin, hfr, hlo, hBc, hBs⟩ := hC
  simp only [jm_chk, Bool.and_eq_true] at hck
  simp only [jm_sem] at hs
  obtain ⟨hc1, hc2⟩ := hck
  split at hs
  · rename_i a r
    obtain ⟨va, hst⟩ := List.forall_mem_cons.mp hst
    have va : jm_r a := va
    obtain ⟨t, e3, e4⟩ := jm_ckl_spec ps.toList res hc2 hs
    obtain ⟨e5, g3, g4⟩ := jm_jmp_spec e3
    exact lv_lookup hx hb hdc hc1 (by rw [jm_ti va]) g4 (e4 e5 g3 H locs cells slots ls hS hL hst)
  · exact hs.elim

end JMS
end
section
section JMH
variable {p : Program} {l : Launch} {e : Env} {R : Room} {s : State} {m : MethodId} {args : Array Value} {below : List Frame} {meth : Method} {c : Code} {D : va_G} {aC : Nat → ClassId} {ba : Nat} {ex : Nat → Nat}
variable {X : jm_X} {n d : Nat} {B : Nat × Nat} {n0 t0 : Nat} {P : List jm_E} {Qz : State → Prop} {C : jm_C} {Q : jm_Q}
theorem jm_ent_i {i : Nat} {q : jm_S} {μ : jm_M} (hq : q.1 < 2) : jm_ent aC ba ex i q μ = .inl (aC q.1, (q.2.1, .inl (fun j => Int32.ofInt (μ i j)))) := by simp [jm_ent, hq]
theorem jm_ent_q {i : Nat} {q : jm_S} {μ : jm_M} (h1 : 2 ≤ q.1) (h2 : q.1 < 10) : jm_ent aC ba ex i q μ = .inl (aC q.1, (q.2.1, .inr (.inr (.inr (.inr (fun j => jm_ro ba ex (μ i j))))))) := by
  have h3 : ¬ q.1 < 2 := by omega
  simp [jm_ent, h3, h2]
theorem jm_ent_o {i : Nat} {q : jm_S} {μ : jm_M} {cl : Nat} (h1 : q.1 = 10 + cl) : jm_ent aC ba ex i q μ = .inr (cl, jm_fs ba ex cl i q.2.2 μ) := by
  have h3 : ¬ q.1 < 2 := by omega
  have h4 : ¬ q.1 < 10 := by omega
  have h5 : q.1 - 10 = cl := by omega
  simp [jm_ent, h3, h4, h5]
theorem jm_fs_at {i cl k : Nat} {rf : List Int} {μ : jm_M} (hk : k < jm_N cl) : (jm_fs ba ex cl i rf μ)[k]? = some (if jm_fty cl k = 2 then va_rf (jm_ro ba ex (rf.getD k (-1))) else .int (Int32.ofInt (μ i k))) := by simp [jm_fs, hk]
theorem jm_fs_len {i cl : Nat} {rf : List Int} {μ : jm_M} : (jm_fs ba ex cl i rf μ).length = jm_N cl := by simp [jm_fs]
/-- the size of the heap, where there is a walk -/
theorem jm_Wsz {H : Heap} {locs : List Loc} {cells slots : Nat} {g : JFrame} (k : H.size ≤ s.heap.size + cells → W p l e R s m args below meth c H locs cells slots Qz g) : W p l e R s m args below meth c H locs cells slots Qz g :=
  fun T hT X => k (by rw [← hT]; exact X.heapSize) T hT X
theorem jm_ge {h : jm_H} {H : Heap} (hP : va_P D vwCl (jm_ws aC ba ex h) H) (h0 : ba ≤ H.size) : ba + h.1.length ≤ H.size := by
  by_cases hz : h.1.length = 0
  · omega
  · have hl : h.1.length - 1 < h.1.length := by omega
    have h1 := (hP _ _ (jm_ws_at (List.getElem?_eq_getElem hl))).lt
    dsimp only at h1
    omega
theorem jm_up_r {h : jm_H} (hr : ∀ i j, jm_r (h.2 i j)) {z k v : Int} (hv : jm_r v) : ∀ i j, jm_r (jm_uc h.2 z (jm_u1 (h.2 z) k v) i j) := by
  intro i j
  unfold jm_uc
  split
  · unfold jm_u1
    split
    · exact hv
    · exact hr z j
  · exact hr i j
theorem jm_uc_ne {μ : jm_M} {z a : Int} {f : Int → Int} (h : a ≠ z) : jm_uc μ z f a = μ a := by simp [jm_uc, h]
theorem jm_uc_self {μ : jm_M} {z : Int} {f : Int → Int} : jm_uc μ z f z = f := by simp [jm_uc]
set_option maxHeartbeats 1000000 in
theorem jm_t_getfield {x : Nat} (hC : jm_Cx p R s m meth c D aC ba ex X n d B n0 t0) {i : Nat} {pc len : Nat} {res : List Int} {L : jm_L} {st : List jm_V} {h : jm_H} (he : P[i]? = some (pc, .getfield x, len, res)) (hdc : decode (jm_co n) pc = .ok (.getfield x, len)) (hck : jm_chk n P i (pc, .getfield x, len, res) = true)
    (hs : jm_sem X C B Q (jm_It p l e R s m args below meth c D aC ba ex P n B n0 t0 Qz) (pc, .getfield x, len, res) i L st h) : jm_It p l e R s m args below meth c D aC ba ex P n B n0 t0 Qz i L st h := by
  intro e' he' H locs cells slots ls hS hL hst
  cases he.symm.trans he'
  obtain ⟨hx, hb, hml, hown, hE, hXt, hsz, hin, hfr, hlo, hBc, hBs⟩ := hC
  simp only [jm_chk, Bool.and_eq_true] at hck
  simp only [jm_sem] at hs
  obtain ⟨hc1, hc2⟩ := hck
  obtain ⟨hl1, e1, g1, g2⟩ := jm_c_spec hc1
  dsimp only at hl1 g2
  subst hl1
  split at hs
  · rename_i z r cl k t
    split at hs
    · rename_i q hq
      obtain ⟨⟨hz0, hk0⟩, hs⟩ := hs
      simp only [Bool.and_eq_true, decide_eq_true_eq] at hc2
      obtain ⟨⟨hkk, ht⟩, hany⟩ := hc2
      obtain ⟨w, hw, hw2⟩ := jm_any hany
      simp only [Bool.and_eq_true, beq_iff_eq] at hw2
      obtain ⟨w1, w2, w3, w4⟩ := hw2
      have hok := List.all_eq_true.mp jm_fl_ok w hw
      simp only [Bool.and_eq_true, decide_eq_true_eq] at hok
      have hwd := jm_word hE (jm_hw_in hok.1 _ List.mem_cons_self) rfl args
      unfold jm_flw at hwd
      rw [w1, w2, w3, w4] at hwd
      have hkN : k.toNat < jm_N cl.toNat := by rw [← w3, ← w4]; exact hok.2
      obtain ⟨vc, hvc⟩ := jm_lt_T _ _ hkN
      obtain ⟨hT, hN⟩ := jm_CN_T _ _ hvc
      obtain ⟨ty, -, -, hu, -⟩ := jm_ck _ _ hvc
      rw [hT] at hwd
      obtain ⟨vz, hst⟩ := List.forall_mem_cons.mp hst
      have hent := jm_ws_at (aC := aC) (ba := ba) (ex := ex) hq
      rw [jm_ent_o hk0] at hent
      have hkz : ((k.toNat : Nat) : Int) = k := Int.toNat_of_nonneg hkk
      have hzz : ((z.toNat : Nat) : Int) = z := Int.toNat_of_nonneg hz0
      have hfa := jm_fs_at (ba := ba) (ex := ex) (i := z.toNat) (rf := q.2.2) (μ := h.2) hkN
      rw [hkz, hzz] at hfa
      have kk := hs e1 g1 H locs cells slots ls hS hL (List.forall_mem_cons.mpr ⟨by split; exact trivial; exact hS.2.1 z k, hst⟩)
      rw [g2] at kk
      rw [List.map_cons, jm_rv_own hz0]
      refine va_get (C := vc.1) (T := vc.2.1) (N := vc.2.2) hx hb (jm_Tsb hE args) hu hown hE.2.2.2 hS.1 z.toNat hent hvc k.toNat (by rw [← hN]; exact hkN) hwd (fun _ q => q) hfa hdc ?_
      have ht2 : (t = 2) ↔ (jm_fty cl.toNat k.toNat = 2) := by omega
      by_cases h2 : jm_fty cl.toNat k.toNat = 2
      · rw [if_pos h2]
        rw [if_pos (ht2.mpr h2)] at kk
        exact kk
      · rw [if_neg h2]
        rw [if_neg (fun q => h2 (ht2.mp q))] at kk
        exact kk
    · exact hs.elim
  · exact hs.elim
set_option maxHeartbeats 1000000 in
theorem jm_t_putfield {x : Nat} (hC : jm_Cx p R s m meth c D aC ba ex X n d B n0 t0) {i : Nat} {pc len : Nat} {res : List Int} {L : jm_L} {st : List jm_V} {h : jm_H} (he : P[i]? = some (pc, .putfield x, len, res)) (hdc : decode (jm_co n) pc = .ok (.putfield x, len)) (hck : jm_chk n P i (pc, .putfield x, len, res) = true)
    (hs : jm_sem X C B Q (jm_It p l e R s m args below meth c D aC ba ex P n B n0 t0 Qz) (pc, .putfield x, len, res) i L st h) : jm_It p l e R s m args below meth c D aC ba ex P n B n0 t0 Qz i L st h := by
  intro e' he' H locs cells slots ls hS hL hst
  cases he.symm.trans he'
  obtain ⟨hx, hb, hml, hown, hE, hXt, hsz, hin, hfr, hlo, hBc, hBs⟩ := hC
  simp only [jm_chk, Bool.and_eq_true] at hck
  simp only [jm_sem] at hs
  obtain ⟨hc1, hc2⟩ := hck
  obtain ⟨hl1, e1, g1, g2⟩ := jm_c_spec hc1
  dsimp only at hl1 g2
  subst hl1
  -- what is common to the two kinds of store
  have common : ∀ (z : Int) (r : List jm_V) (cl k t : Int) (q : jm_S) (v : jm_V) (h' : jm_H), h.1[z.toNat]? = some q → 0 ≤ z → q.1 = 10 + cl.toNat → res = [cl, k, t] → (∀ v ∈ r, jm_ok v) →
      (∀ ty, ((jm_fty cl.toNat k.toNat = 0 ∧ ty = .int) ∨ (jm_fty cl.toNat k.toNat = 1 ∧ ty = .boolean) ∨ (jm_fty cl.toNat k.toNat = 2 ∧ (match ty with | .object _ => true | .array _ => true | _ => false) = true)) → narrow ty (jm_rv ba ex v) = jm_rv ba ex v ∧ fits ty (jm_rv ba ex v) = true) →
      (0 ≤ k → k.toNat < jm_N cl.toNat → (jm_ws aC ba ex h).set z.toNat (ba + z.toNat, .inr (cl.toNat, (jm_fs ba ex cl.toNat z.toNat q.2.2 h.2).set k.toNat (jm_rv ba ex v))) = jm_ws aC ba ex h') →
      (∀ i j, jm_r (h'.2 i j)) → h'.1.length = h.1.length → jm_tot h'.1 = jm_tot h.1 →
      jm_It p l e R s m args below meth c D aC ba ex P n B n0 t0 Qz (i + 1) L r h' → W p l e R s m args below meth c H locs cells slots Qz (F0 m pc ls (jm_rv ba ex v :: .ref (ba + z.toNat) :: r.map (jm_rv ba ex))) := by
    intro z r cl k t q v h' hq hz0 hk0 hres hr hty hws hrg hln htt kk
    subst hres
    simp only [Bool.and_eq_true, decide_eq_true_eq, Bool.or_eq_true, beq_iff_eq] at hc2
    obtain ⟨⟨hkk, ht⟩, hany, hfin⟩ := hc2
    obtain ⟨w, hw, hw2⟩ := jm_any hany
    simp only [Bool.and_eq_true, beq_iff_eq] at hw2
    obtain ⟨w1, w2, w3, w4⟩ := hw2
    have hok := List.all_eq_true.mp jm_fl_ok w hw
    simp only [Bool.and_eq_true, decide_eq_true_eq] at hok
    have hwd := jm_word hE (jm_hw_in hok.1 _ List.mem_cons_self) rfl args
    unfold jm_flw at hwd
    rw [w1, w2, w3, w4] at hwd
    have hkN : k.toNat < jm_N cl.toNat := by rw [← w3, ← w4]; exact hok.2
    obtain ⟨vc, hvc⟩ := jm_lt_T _ _ hkN
    obtain ⟨hT, hN⟩ := jm_CN_T _ _ hvc
    obtain ⟨ty, hp, hnm, hu, -, htk, hcn⟩ := jm_ck _ _ hvc
    rw [hT] at hwd hfin
    have hkN2 : k.toNat < vc.2.2 := by rw [← hN]; exact hkN
    have hent := jm_ws_at (aC := aC) (ba := ba) (ex := ex) hq
    rw [jm_ent_o hk0] at hent
    obtain ⟨hn1, hf1⟩ := hty (ty k.toNat) (htk _ hkN2).1
    have fin : ∀ (H1 : Heap) (locs1 : List Loc), va_P D vwCl ((jm_ws aC ba ex h).set z.toNat (ba + z.toNat, .inr (cl.toNat, (jm_fs ba ex cl.toNat z.toNat q.2.2 h.2).set k.toNat (jm_rv ba ex v)))) H1 → va_D (fun q => ba ≤ q) ((jm_ws aC ba ex h).set z.toNat (ba + z.toNat, .inr (cl.toNat, (jm_fs ba ex cl.toNat z.toNat q.2.2 h.2).set k.toNat (jm_rv ba ex v)))) → va_S (fun q => ba ≤ q) s.heap H1 locs1 → W p l e R s m args below meth c H1 locs1 cells slots Qz (F0 m (pc + 3) ls (r.map (jm_rv ba ex))) := by
      intro H1 locs1 a1 _ a3
      rw [hws hkk hkN] at a1
      have k3 := kk e1 g1 H1 locs1 cells slots ls ⟨a1, hrg, a3, by rw [hln]; exact hS.2.2.2.1, by rw [htt]; exact hS.2.2.2.2.1, by rw [hln]; exact hS.2.2.2.2.2.1, by rw [htt]; exact hS.2.2.2.2.2.2⟩ hL hr
      rw [g2] at k3
      exact k3
    rcases hfin with hfin | ⟨hfin1, hfin2⟩
    · exact va_put (C := vc.1) (T := vc.2.1) (N := vc.2.2) hx hb (jm_Tsb hE args) hu ty hp hnm hown hE.2.2.2 hS.1 (jm_ws_D aC ba ex h) hS.2.2.1 z.toNat hent hvc k.toNat hkN2 hwd (fun _ q => q) hfin (hp _ hkN2) hn1 hf1 (by rw [jm_fs_len]; exact hkN) hdc fin
    · by_cases hfb : (vc.2.1 k.toNat).2.2.2 = false
      · exact va_put (C := vc.1) (T := vc.2.1) (N := vc.2.2) hx hb (jm_Tsb hE args) hu ty hp hnm hown hE.2.2.2 hS.1 (jm_ws_D aC ba ex h) hS.2.2.1 z.toNat hent hvc k.toNat hkN2 hwd (fun _ q => q) hfb (hp _ hkN2) hn1 hf1 (by rw [jm_fs_len]; exact hkN) hdc fin
      · exact va_putF (C := vc.1) (T := vc.2.1) (N := vc.2.2) hx hb (jm_Tsb hE args) hu ty hp hnm hown hE.2.2.2 hS.1 (jm_ws_D aC ba ex h) hS.2.2.1 z.toNat hent hvc k.toNat hkN2 hwd (fun _ q => q) (by simpa using hfb) (hin hfin1) (by rw [(htk _ hkN2).2, hcn, hfin2]) (hp _ hkN2) hn1 hf1 (by rw [jm_fs_len]; exact hkN) hdc fin
  split at hs
  · rename_i v z r cl k t
    split at hs
    · rename_i q hq
      obtain ⟨⟨hz0, hk0⟩, hvt, hs⟩ := hs
      obtain ⟨vv, hst⟩ := List.forall_mem_cons.mp hst
      obtain ⟨-, hst⟩ := List.forall_mem_cons.mp hst
      have hzz : ((z.toNat : Nat) : Int) = z := Int.toNat_of_nonneg hz0
      have ht0 : t = (jm_fty cl.toNat k.toNat : Int) := by
        simp only [Bool.and_eq_true, decide_eq_true_eq] at hc2
        exact hc2.1.2
      rw [List.map_cons, List.map_cons, jm_rv_own hz0]
      refine common z r cl k t q (.inl v) (h.1, jm_uc h.2 z (jm_u1 (h.2 z) k v)) hq hz0 hk0 rfl hst ?_ ?_ (jm_up_r hS.2.1 vv) rfl rfl hs
      · intro ty hty
        rcases hty with ⟨a1, rfl⟩ | ⟨a1, rfl⟩ | ⟨a1, a2⟩
        · exact ⟨rfl, rfl⟩
        · rcases hvt with h9 | ⟨-, rfl | rfl⟩
          · omega
          · exact ⟨rfl, rfl⟩
          · exact ⟨rfl, rfl⟩
        · rcases hvt with h9 | ⟨h9, -⟩ <;> omega
      · intro hkk hkN
        have hkz : ((k.toNat : Nat) : Int) = k := Int.toNat_of_nonneg hkk
        refine jm_ws_set (h := h) (h' := (h.1, jm_uc h.2 z (jm_u1 (h.2 z) k v))) rfl hq ?_ (fun j hj => ⟨rfl, jm_uc_ne (by omega)⟩)
        rw [jm_ent_o hk0]
        congr 2
        apply List.ext_getElem?
        intro j
        by_cases hjk : j = k.toNat
        · subst hjk
          rw [List.getElem?_set_self (by rw [jm_fs_len]; exact hkN), jm_fs_at hkN, if_neg (by omega)]
          simp only [hzz, hkz, jm_uc_self, jm_u1, if_true]
          rfl
        · rw [List.getElem?_set_ne (Ne.symm hjk)]
          by_cases hjN : j < jm_N cl.toNat
          · rw [jm_fs_at hjN, jm_fs_at hjN]
            simp only [hzz, jm_uc_self, jm_u1]
            rw [if_neg (show ¬ (j : Int) = k by omega)]
          · rw [List.getElem?_eq_none (by rw [jm_fs_len]; omega), List.getElem?_eq_none (by rw [jm_fs_len]; omega)]
    · exact hs.elim
  · rename_i v z r cl k t
    split at hs
    · rename_i q hq
      obtain ⟨⟨hz0, hk0⟩, ⟨hv0, hvt, hkl⟩, hs⟩ := hs
      obtain ⟨vv, hst⟩ := List.forall_mem_cons.mp hst
      obtain ⟨-, hst⟩ := List.forall_mem_cons.mp hst
      have hzz : ((z.toNat : Nat) : Int) = z := Int.toNat_of_nonneg hz0
      have ht0 : t = (jm_fty cl.toNat k.toNat : Int) := by
        simp only [Bool.and_eq_true, decide_eq_true_eq] at hc2
        exact hc2.1.2
      have hzl : z.toNat < h.1.length := (List.getElem?_eq_some_iff.mp hq).1
      rw [List.map_cons, List.map_cons, jm_rv_own (z := z) hz0]
      have htot : ∀ (l : List jm_S) (i : Nat) (q q' : jm_S), l[i]? = some q → q'.2.1 = q.2.1 → jm_tot (l.set i q') = jm_tot l := by
        intro l
        induction l with
        | nil => intro i q q' h1; simp at h1
        | cons a l ih =>
          intro i q q' h1 h2
          cases i with
          | zero => simp at h1; subst h1; simp [jm_tot, h2]
          | succ i => simp only [List.getElem?_cons_succ] at h1; simp [jm_tot, ih i q q' h1 h2]
      refine common z r cl k t q (.inr (.inr v)) (h.1.set z.toNat (q.1, q.2.1, q.2.2.set k.toNat v), h.2) hq hz0 hk0 rfl hst ?_ ?_ hS.2.1 (by simp) (htot _ _ _ _ hq rfl) hs
      · intro ty hty
        rw [jm_rv_own hv0]
        rcases hty with ⟨a1, rfl⟩ | ⟨a1, rfl⟩ | ⟨a1, a2⟩
        · omega
        · omega
        · cases ty <;> first | exact ⟨rfl, rfl⟩ | cases a2
      · intro hkk hkN
        refine jm_ws_set (h := h) (h' := (h.1.set z.toNat (q.1, q.2.1, q.2.2.set k.toNat v), h.2)) (by simp) (s' := (q.1, q.2.1, q.2.2.set k.toNat v)) (by simp [hzl]) ?_ (fun j hj => ⟨by simp [Ne.symm hj], rfl⟩)
        rw [jm_ent_o (q := (q.1, q.2.1, q.2.2.set k.toNat v)) hk0]
        congr 2
        apply List.ext_getElem?
        intro j
        by_cases hjk : j = k.toNat
        · subst hjk
          rw [List.getElem?_set_self (by rw [jm_fs_len]; exact hkN), jm_fs_at hkN, if_pos (by omega)]
          simp [hkl, jm_rv]
        · rw [List.getElem?_set_ne (Ne.symm hjk)]
          by_cases hjN : j < jm_N cl.toNat
          · rw [jm_fs_at hjN, jm_fs_at hjN]
            simp [List.getElem?_set_ne (Ne.symm hjk)]
          · rw [List.getElem?_eq_none (by rw [jm_fs_len]; omega), List.getElem?_eq_none (by rw [jm_fs_len]; omega)]
    · exact hs.elim
  · exact hs.elim
end JMH
end
section
section JMA
variable {p : Program} {l : Launch} {e : Env} {R : Room} {s : State} {m : MethodId} {args : Array Value} {below : List Frame} {meth : Method} {c : Code} {D : va_G} {aC : Nat → ClassId} {ba : Nat} {ex : Nat → Nat}
variable {X : jm_X} {n d : Nat} {B : Nat × Nat} {n0 t0 : Nat} {P : List jm_E} {Qz : State → Prop} {C : jm_C} {Q : jm_Q}
theorem jm_new_at {h : jm_H} {q : Nat} {en : va_E} {H1 : Heap} (hD : va_D (fun q => ba ≤ q) (jm_ws aC ba ex h ++ [(q, en)])) (hP : va_P D vwCl (jm_ws aC ba ex h ++ [(q, en)]) H1) (hz : H1.size ≤ ba + h.1.length + 1) : q = ba + h.1.length := by
  have hlast : (jm_ws aC ba ex h ++ [(q, en)])[h.1.length]? = some (q, en) := by rw [List.getElem?_append_right (by rw [jm_ws_len]; exact Nat.le_refl _), jm_ws_len, Nat.sub_self]; rfl
  have h1 := (hP _ _ hlast).lt
  have h2 : ba ≤ q := hD.2 _ _ hlast
  dsimp only at h1
  by_cases hlt : q < ba + h.1.length
  · exfalso
    have hi : q - ba < h.1.length := by omega
    have hold : (jm_ws aC ba ex h ++ [(q, en)])[q - ba]? = some (ba + (q - ba), jm_ent aC ba ex (q - ba) h.1[q - ba] h.2) := by rw [List.getElem?_append_left (by rw [jm_ws_len]; exact hi)]; exact jm_ws_at (List.getElem?_eq_getElem hi)
    have := hD.1 _ _ _ _ hold hlast (by dsimp only; omega)
    omega
  · omega
theorem jm_tot_app (a : List jm_S) (b : jm_S) : jm_tot (a ++ [b]) = jm_tot a + b.2.1 := by
  induction a with
  | nil => simp [jm_tot]
  | cons x a ih => simp only [List.cons_append, jm_tot, ih]; omega
theorem jm_uc_r {h : jm_H} (hr : ∀ i j, jm_r (h.2 i j)) {z v : Int} (hv : jm_r v) : ∀ i j, jm_r (jm_uc h.2 z (fun _ => v) i j) := by
  intro i j
  unfold jm_uc
  split
  · exact hv
  · exact hr i j
theorem jm_ref_of (z : Int) : jm_rv ba ex (.inr (.inr z)) = va_rf (jm_ro ba ex z) := rfl
theorem jm_len_ref (k : Nat) : jm_rv ba ex (.inr (.inr (k : Int))) = .ref (ba + k) := by rw [jm_rv_own (by omega)]; simp

set_option maxHeartbeats 1000000 in
theorem jm_t_getstatic {x : Nat} (hC : jm_Cx p R s m meth c D aC ba ex X n d B n0 t0) {i : Nat} {pc len : Nat} {res : List Int} {L : jm_L} {st : List jm_V} {h : jm_H} (he : P[i]? = some (pc, .getstatic x, len, res)) (hdc : decode (jm_co n) pc = .ok (.getstatic x, len)) (hck : jm_chk n P i (pc, .getstatic x, len, res) = true)
    (hs : jm_sem X C B Q (jm_It p l e R s m args below meth c D aC ba ex P n B n0 t0 Qz) (pc, .getstatic x, len, res) i L st h) : jm_It p l e R s m args below meth c D aC ba ex P n B n0 t0 Qz i L st h := by
  intro e' he' H locs cells slots ls hS hL hst
  cases he.symm.trans he'
  obtain ⟨hx, hb, hml, hown, hE, hXt, hsz, hin, hfr, hlo, hBc, hBs⟩ := hC
  simp only [jm_chk, Bool.and_eq_true] at hck
  simp only [jm_sem] at hs
  obtain ⟨hc1, hc2⟩ := hck
  obtain ⟨hl1, e1, g1, g2⟩ := jm_c_spec hc1
  dsimp only at hl1 g2
  subst hl1
  split at hs
  · rename_i k
    simp only [Bool.and_eq_true, decide_eq_true_eq] at hc2
    obtain ⟨hk3, hany⟩ := hc2
    obtain ⟨w, hw, hw2⟩ := jm_any hany
    simp only [Bool.and_eq_true, beq_iff_eq] at hw2
    obtain ⟨w1, w2, w3⟩ := hw2
    have hwd := jm_word hE (jm_hw_in (List.all_eq_true.mp jm_sl_ok w hw) _ List.mem_cons_self) rfl args
    unfold jm_slw at hwd
    rw [w1, w2, w3] at hwd
    have hlt : ∀ w ∈ jm_sl, w.2.2.1 < jm_sf.length := by decide
    have hk5 := hlt w hw
    rw [w3] at hk5
    have hsf : jm_sf[(-3 - k).toNat]? = some (jm_sf.getD (-3 - k).toNat ("", "", "")) := by rw [List.getD_eq_getElem?_getD, List.getElem?_eq_getElem hk5]; rfl
    have hZ := hXt.2 _ _ hsf
    have kk := hs e1 g1 H locs cells slots ls hS hL (List.forall_mem_cons.mpr ⟨trivial, hst⟩)
    rw [g2, List.map_cons, jm_rv_ext (by omega), show (-2 - k).toNat = (-3 - k).toNat + 1 by omega] at kk
    exact va_gets hx hb hZ hS.2.2.1 hown hwd (fun _ q => q) hdc kk
  · exact hs.elim

set_option maxHeartbeats 1000000 in
theorem jm_t_iaload (hC : jm_Cx p R s m meth c D aC ba ex X n d B n0 t0) {i : Nat} {pc len : Nat} {res : List Int} {L : jm_L} {st : List jm_V} {h : jm_H} (he : P[i]? = some (pc, .iaload, len, res)) (hdc : decode (jm_co n) pc = .ok (.iaload, len)) (hck : jm_chk n P i (pc, .iaload, len, res) = true)
    (hs : jm_sem X C B Q (jm_It p l e R s m args below meth c D aC ba ex P n B n0 t0 Qz) (pc, .iaload, len, res) i L st h) : jm_It p l e R s m args below meth c D aC ba ex P n B n0 t0 Qz i L st h := by
  intro e' he' H locs cells slots ls hS hL hst
  cases he.symm.trans he'
  obtain ⟨hx, hb, hml, hown, hE, hXt, hsz, hin, hfr, hlo, hBc, hBs⟩ := hC
  simp only [jm_chk] at hck
  simp only [jm_sem] at hs
  obtain ⟨hl1, e1, g1, g2⟩ := jm_c_spec hck
  dsimp only at hl1 g2
  subst hl1
  split at hs
  · rename_i j z r
    obtain ⟨vj, hst⟩ := List.forall_mem_cons.mp hst
    obtain ⟨-, hst⟩ := List.forall_mem_cons.mp hst
    have vj : jm_r j := vj
    split at hs
    · rename_i hz0
      split at hs
      · rename_i q hq
        obtain ⟨hk0, ⟨hj0, hj1⟩, hs⟩ := hs
        have hent := jm_ws_at (aC := aC) (ba := ba) (ex := ex) hq
        rw [jm_ent_i (by omega), hk0] at hent
        have hzz : ((z.toNat : Nat) : Int) = z := Int.toNat_of_nonneg hz0
        have kk := hs e1 g1 H locs cells slots ls hS hL (List.forall_mem_cons.mpr ⟨hS.2.1 z j, hst⟩)
        rw [g2] at kk
        rw [List.map_cons, List.map_cons, jm_rv_own hz0]
        refine va_iald hx hb hE.2.2.2 hS.1 z.toNat 0 hent rfl (jm_vin vj hj0 hj1) hdc ?_
        dsimp only
        rw [jm_nn vj, Int.toNat_of_nonneg hj0, hzz]
        exact kk
      · exact hs.elim
    · rename_i hz0
      obtain ⟨⟨hz1, hz2⟩, ⟨hj0, hj1⟩, hs⟩ := hs
      obtain ⟨hT, hN, hr⟩ := hXt.1 (-2 - z).toNat (by omega)
      have kk := hs e1 g1 H locs cells slots ls hS hL (List.forall_mem_cons.mpr ⟨hr j, hst⟩)
      rw [g2] at kk
      rw [List.map_cons, List.map_cons, jm_rv_ext hz1]
      refine va_ti hx hb hT hS.2.2.1 (jm_vin vj hj0 hj1) rfl hdc ?_
      rw [jm_nn vj, Int.toNat_of_nonneg hj0]
      exact kk
  · exact hs.elim

set_option maxHeartbeats 1000000 in
theorem jm_t_baload (hC : jm_Cx p R s m meth c D aC ba ex X n d B n0 t0) {i : Nat} {pc len : Nat} {res : List Int} {L : jm_L} {st : List jm_V} {h : jm_H} (he : P[i]? = some (pc, .baload, len, res)) (hdc : decode (jm_co n) pc = .ok (.baload, len)) (hck : jm_chk n P i (pc, .baload, len, res) = true)
    (hs : jm_sem X C B Q (jm_It p l e R s m args below meth c D aC ba ex P n B n0 t0 Qz) (pc, .baload, len, res) i L st h) : jm_It p l e R s m args below meth c D aC ba ex P n B n0 t0 Qz i L st h := by
  intro e' he' H locs cells slots ls hS hL hst
  cases he.symm.trans he'
  obtain ⟨hx, hb, hml, hown, hE, hXt, hsz, hin, hfr, hlo, hBc, hBs⟩ := hC
  simp only [jm_chk] at hck
  simp only [jm_sem] at hs
  obtain ⟨hl1, e1, g1, g2⟩ := jm_c_spec hck
  dsimp only at hl1 g2
  subst hl1
  split at hs
  · rename_i j z r
    obtain ⟨vj, hst⟩ := List.forall_mem_cons.mp hst
    obtain ⟨-, hst⟩ := List.forall_mem_cons.mp hst
    have vj : jm_r j := vj
    split at hs
    · rename_i q hq
      obtain ⟨⟨hz0, hk0⟩, ⟨hj0, hj1⟩, hs⟩ := hs
      have hent := jm_ws_at (aC := aC) (ba := ba) (ex := ex) hq
      rw [jm_ent_i (by omega), hk0] at hent
      have hzz : ((z.toNat : Nat) : Int) = z := Int.toNat_of_nonneg hz0
      have kk := hs e1 g1 H locs cells slots ls hS hL (List.forall_mem_cons.mpr ⟨hS.2.1 z j, hst⟩)
      rw [g2] at kk
      rw [List.map_cons, List.map_cons, jm_rv_own hz0]
      refine va_zald hx hb hE.2.2.2 hS.1 z.toNat 1 hent rfl (jm_vin vj hj0 hj1) hdc ?_
      dsimp only
      rw [jm_nn vj, Int.toNat_of_nonneg hj0, hzz]
      exact kk
    · exact hs.elim
  · exact hs.elim

set_option maxHeartbeats 1000000 in
theorem jm_t_aaload (hC : jm_Cx p R s m meth c D aC ba ex X n d B n0 t0) {i : Nat} {pc len : Nat} {res : List Int} {L : jm_L} {st : List jm_V} {h : jm_H} (he : P[i]? = some (pc, .aaload, len, res)) (hdc : decode (jm_co n) pc = .ok (.aaload, len)) (hck : jm_chk n P i (pc, .aaload, len, res) = true)
    (hs : jm_sem X C B Q (jm_It p l e R s m args below meth c D aC ba ex P n B n0 t0 Qz) (pc, .aaload, len, res) i L st h) : jm_It p l e R s m args below meth c D aC ba ex P n B n0 t0 Qz i L st h := by
  intro e' he' H locs cells slots ls hS hL hst
  cases he.symm.trans he'
  obtain ⟨hx, hb, hml, hown, hE, hXt, hsz, hin, hfr, hlo, hBc, hBs⟩ := hC
  simp only [jm_chk] at hck
  simp only [jm_sem] at hs
  obtain ⟨hl1, e1, g1, g2⟩ := jm_c_spec hck
  dsimp only at hl1 g2
  subst hl1
  split at hs
  · rename_i j z r
    obtain ⟨vj, hst⟩ := List.forall_mem_cons.mp hst
    obtain ⟨-, hst⟩ := List.forall_mem_cons.mp hst
    have vj : jm_r j := vj
    split at hs
    · rename_i q hq
      obtain ⟨⟨hz0, hk2, hk5⟩, ⟨hj0, hj1⟩, hs⟩ := hs
      have hent := jm_ws_at (aC := aC) (ba := ba) (ex := ex) hq
      rw [jm_ent_q hk2 (by omega)] at hent
      have hzz : ((z.toNat : Nat) : Int) = z := Int.toNat_of_nonneg hz0
      have kk := hs e1 g1 H locs cells slots ls hS hL (List.forall_mem_cons.mpr ⟨trivial, hst⟩)
      rw [g2, List.map_cons, jm_ref_of] at kk
      rw [List.map_cons, List.map_cons, jm_rv_own hz0]
      have hty : ∃ Cn, (jm_tys aC)[q.1]? = some (aC q.1, .object Cn) := by
        obtain ⟨q1, q2⟩ := q
        dsimp only at hk2 hk5 ⊢
        rcases (show q1 = 2 ∨ q1 = 3 ∨ q1 = 4 by omega) with rfl | rfl | rfl
        · exact ⟨_, rfl⟩
        · exact ⟨_, rfl⟩
        · exact ⟨_, rfl⟩
      obtain ⟨Cn, hty⟩ := hty
      refine va_aldq hx hb hE.2.2.2 hS.1 z.toNat q.1 hent hty (jm_vin vj hj0 hj1) hdc ?_
      dsimp only
      rw [jm_nn vj, Int.toNat_of_nonneg hj0, hzz]
      exact kk
    · exact hs.elim
  · exact hs.elim

set_option maxHeartbeats 1000000 in
theorem jm_t_iastore (hC : jm_Cx p R s m meth c D aC ba ex X n d B n0 t0) {i : Nat} {pc len : Nat} {res : List Int} {L : jm_L} {st : List jm_V} {h : jm_H} (he : P[i]? = some (pc, .iastore, len, res)) (hdc : decode (jm_co n) pc = .ok (.iastore, len)) (hck : jm_chk n P i (pc, .iastore, len, res) = true)
    (hs : jm_sem X C B Q (jm_It p l e R s m args below meth c D aC ba ex P n B n0 t0 Qz) (pc, .iastore, len, res) i L st h) : jm_It p l e R s m args below meth c D aC ba ex P n B n0 t0 Qz i L st h := by
  intro e' he' H locs cells slots ls hS hL hst
  cases he.symm.trans he'
  obtain ⟨hx, hb, hml, hown, hE, hXt, hsz, hin, hfr, hlo, hBc, hBs⟩ := hC
  simp only [jm_chk] at hck
  simp only [jm_sem] at hs
  obtain ⟨hl1, e1, g1, g2⟩ := jm_c_spec hck
  dsimp only at hl1 g2
  subst hl1
  split at hs
  · rename_i v j z r
    obtain ⟨vv, hst⟩ := List.forall_mem_cons.mp hst
    obtain ⟨vj, hst⟩ := List.forall_mem_cons.mp hst
    obtain ⟨-, hst⟩ := List.forall_mem_cons.mp hst
    have vj : jm_r j := vj
    split at hs
    · rename_i q hq
      obtain ⟨⟨hz0, hk0⟩, ⟨hj0, hj1⟩, hs⟩ := hs
      have hent := jm_ws_at (aC := aC) (ba := ba) (ex := ex) hq
      rw [jm_ent_i (by omega), hk0] at hent
      have hzz : ((z.toNat : Nat) : Int) = z := Int.toNat_of_nonneg hz0
      rw [List.map_cons, List.map_cons, List.map_cons, jm_rv_own hz0]
      refine va_iast hx hb hE.2.2.2 hS.1 (jm_ws_D aC ba ex h) hS.2.2.1 z.toNat 0 hent rfl (jm_vin vj hj0 hj1) hdc (fun H1 locs1 a1 _ a3 => ?_)
      have hset : (jm_ws aC ba ex h).set z.toNat (ba + z.toNat, .inl (aC 0, q.2.1, .inl (upd (fun j => Int32.ofInt (h.2 z.toNat j)) (Int32.ofInt j).toNatClampNeg (Int32.ofInt v)))) = jm_ws aC ba ex (h.1, jm_uc h.2 z (jm_u1 (h.2 z) j v)) := by
        refine jm_ws_set rfl hq ?_ (fun b hb => ⟨rfl, jm_uc_ne (by omega)⟩)
        rw [jm_ent_i (by omega), hk0, jm_nn vj]
        congr 4
        funext b
        simp only [hzz, jm_uc_self, jm_u1, upd]
        by_cases hbj : b = j.toNat
        · rw [if_pos hbj, if_pos (show (b : Int) = j by omega)]
          try rfl
        · rw [if_neg hbj, if_neg (show ¬ (b : Int) = j by omega)]
      rw [hset] at a1
      have kk := hs e1 g1 H1 locs1 cells slots ls ⟨a1, jm_up_r hS.2.1 vv, a3, hS.2.2.2⟩ hL hst
      rw [g2] at kk
      exact kk
    · exact hs.elim
  · exact hs.elim

set_option maxHeartbeats 1000000 in
theorem jm_t_bastore (hC : jm_Cx p R s m meth c D aC ba ex X n d B n0 t0) {i : Nat} {pc len : Nat} {res : List Int} {L : jm_L} {st : List jm_V} {h : jm_H} (he : P[i]? = some (pc, .bastore, len, res)) (hdc : decode (jm_co n) pc = .ok (.bastore, len)) (hck : jm_chk n P i (pc, .bastore, len, res) = true)
    (hs : jm_sem X C B Q (jm_It p l e R s m args below meth c D aC ba ex P n B n0 t0 Qz) (pc, .bastore, len, res) i L st h) : jm_It p l e R s m args below meth c D aC ba ex P n B n0 t0 Qz i L st h := by
  intro e' he' H locs cells slots ls hS hL hst
  cases he.symm.trans he'
  obtain ⟨hx, hb, hml, hown, hE, hXt, hsz, hin, hfr, hlo, hBc, hBs⟩ := hC
  simp only [jm_chk] at hck
  simp only [jm_sem] at hs
  obtain ⟨hl1, e1, g1, g2⟩ := jm_c_spec hck
  dsimp only at hl1 g2
  subst hl1
  split at hs
  · rename_i v j z r
    obtain ⟨vv, hst⟩ := List.forall_mem_cons.mp hst
    obtain ⟨vj, hst⟩ := List.forall_mem_cons.mp hst
    obtain ⟨-, hst⟩ := List.forall_mem_cons.mp hst
    have vj : jm_r j := vj
    split at hs
    · rename_i q hq
      obtain ⟨⟨hz0, hk0⟩, ⟨hj0, hj1⟩, hvb, hs⟩ := hs
      have hent := jm_ws_at (aC := aC) (ba := ba) (ex := ex) hq
      rw [jm_ent_i (by omega), hk0] at hent
      have hzz : ((z.toNat : Nat) : Int) = z := Int.toNat_of_nonneg hz0
      rw [List.map_cons, List.map_cons, List.map_cons, jm_rv_own hz0]
      refine va_zast hx hb hE.2.2.2 hS.1 (jm_ws_D aC ba ex h) hS.2.2.1 z.toNat 1 hent rfl (jm_vin vj hj0 hj1) hdc (fun H1 locs1 a1 _ a3 => ?_)
      have hset : (jm_ws aC ba ex h).set z.toNat (ba + z.toNat, .inl (aC 1, q.2.1, .inl (upd (fun j => Int32.ofInt (h.2 z.toNat j)) (Int32.ofInt j).toNatClampNeg (vp_nar .boolean (Int32.ofInt v))))) = jm_ws aC ba ex (h.1, jm_uc h.2 z (jm_u1 (h.2 z) j v)) := by
        refine jm_ws_set rfl hq ?_ (fun b hb => ⟨rfl, jm_uc_ne (by omega)⟩)
        rw [jm_ent_i (by omega), hk0, jm_nn vj]
        congr 4
        funext b
        simp only [hzz, jm_uc_self, jm_u1, upd]
        by_cases hbj : b = j.toNat
        · rw [if_pos hbj, if_pos (show (b : Int) = j by omega)]
          rcases hvb with rfl | rfl <;> rfl
        · rw [if_neg hbj, if_neg (show ¬ (b : Int) = j by omega)]
      rw [hset] at a1
      have kk := hs e1 g1 H1 locs1 cells slots ls ⟨a1, jm_up_r hS.2.1 vv, a3, hS.2.2.2⟩ hL hst
      rw [g2] at kk
      exact kk
    · exact hs.elim
  · exact hs.elim

set_option maxHeartbeats 1000000 in
theorem jm_t_aastore (hC : jm_Cx p R s m meth c D aC ba ex X n d B n0 t0) {i : Nat} {pc len : Nat} {res : List Int} {L : jm_L} {st : List jm_V} {h : jm_H} (he : P[i]? = some (pc, .aastore, len, res)) (hdc : decode (jm_co n) pc = .ok (.aastore, len)) (hck : jm_chk n P i (pc, .aastore, len, res) = true)
    (hs : jm_sem X C B Q (jm_It p l e R s m args below meth c D aC ba ex P n B n0 t0 Qz) (pc, .aastore, len, res) i L st h) : jm_It p l e R s m args below meth c D aC ba ex P n B n0 t0 Qz i L st h := by
  intro e' he' H locs cells slots ls hS hL hst
  cases he.symm.trans he'
  obtain ⟨hx, hb, hml, hown, hE, hXt, hsz, hin, hfr, hlo, hBc, hBs⟩ := hC
  simp only [jm_chk] at hck
  simp only [jm_sem] at hs
  obtain ⟨hl1, e1, g1, g2⟩ := jm_c_spec hck
  dsimp only at hl1 g2
  subst hl1
  split at hs
  · rename_i v j z r
    obtain ⟨vv, hst⟩ := List.forall_mem_cons.mp hst
    obtain ⟨vj, hst⟩ := List.forall_mem_cons.mp hst
    obtain ⟨-, hst⟩ := List.forall_mem_cons.mp hst
    have vj : jm_r j := vj
    split at hs
    · rename_i q w hq hw
      obtain ⟨⟨hz0, ⟨hv0, hv1⟩, hkd⟩, ⟨hj0, hj1⟩, hs⟩ := hs
      have hent := jm_ws_at (aC := aC) (ba := ba) (ex := ex) hq
      rw [jm_ent_q (by omega) (by omega)] at hent
      have henv := jm_ws_at (aC := aC) (ba := ba) (ex := ex) hw
      have hzz : ((z.toNat : Nat) : Int) = z := Int.toNat_of_nonneg hz0
      have hvl : v.toNat < h.1.length := (List.getElem?_eq_some_iff.mp hw).1
      rw [List.map_cons, List.map_cons, List.map_cons, jm_rv_own (z := z) hz0, jm_rv_own (z := v) hv0]
      have fin : ∀ (H1 : Heap) (locs1 : List Loc), jm_r v → va_P D vwCl ((jm_ws aC ba ex h).set z.toNat (ba + z.toNat, .inl (aC q.1, q.2.1, .inr (.inr (.inr (.inr (va_up (fun j => jm_ro ba ex (h.2 z.toNat j)) (Int32.ofInt j).toNatClampNeg (some (ba + v.toNat))))))))) H1 → va_S (fun q => ba ≤ q) s.heap H1 locs1 → W p l e R s m args below meth c H1 locs1 cells slots Qz (F0 m (pc + 1) ls (r.map (jm_rv ba ex))) := by
        intro H1 locs1 hrv a1 a3
        have hset : (jm_ws aC ba ex h).set z.toNat (ba + z.toNat, .inl (aC q.1, q.2.1, .inr (.inr (.inr (.inr (va_up (fun j => jm_ro ba ex (h.2 z.toNat j)) (Int32.ofInt j).toNatClampNeg (some (ba + v.toNat)))))))) = jm_ws aC ba ex (h.1, jm_uc h.2 z (jm_u1 (h.2 z) j v)) := by
          refine jm_ws_set rfl hq ?_ (fun b hb => ⟨rfl, jm_uc_ne (by omega)⟩)
          rw [jm_ent_q (by omega) (by omega), jm_nn vj]
          congr 7
          funext b
          simp only [hzz, jm_uc_self, jm_u1, va_up]
          by_cases hbj : b = j.toNat
          · rw [if_pos hbj, if_pos (show (b : Int) = j by omega)]
            simp [jm_ro, hv0]
          · rw [if_neg hbj, if_neg (show ¬ (b : Int) = j by omega)]
        rw [hset] at a1
        have kk := hs e1 g1 H1 locs1 cells slots ls ⟨a1, jm_up_r hS.2.1 hrv, a3, hS.2.2.2⟩ hL hst
        rw [g2] at kk
        exact kk
      have hrv : jm_r v := ⟨by omega, by omega⟩
      rcases hkd with ⟨k1, k2⟩ | ⟨k1, k2⟩ | ⟨k1, k2⟩
      · rw [jm_ent_o (cl := 5) (by omega)] at henv
        exact va_astq hx hb hE.2.2.2 hS.1 (jm_ws_D aC ba ex h) hS.2.2.1 z.toNat 2 v.toNat 5 hent (by rw [k1]; rfl) henv rfl (jm_vin vj hj0 hj1) hdc (fun H1 locs1 a1 _ a3 => fin H1 locs1 hrv a1 a3)
      · rw [jm_ent_o (cl := 1) (by omega)] at henv
        exact va_astq hx hb hE.2.2.2 hS.1 (jm_ws_D aC ba ex h) hS.2.2.1 z.toNat 3 v.toNat 1 hent (by rw [k1]; rfl) henv rfl (jm_vin vj hj0 hj1) hdc (fun H1 locs1 a1 _ a3 => fin H1 locs1 hrv a1 a3)
      · rw [jm_ent_o (cl := 4) (by omega)] at henv
        exact va_astq hx hb hE.2.2.2 hS.1 (jm_ws_D aC ba ex h) hS.2.2.1 z.toNat 4 v.toNat 4 hent (by rw [k1]; rfl) henv rfl (jm_vin vj hj0 hj1) hdc (fun H1 locs1 a1 _ a3 => fin H1 locs1 hrv a1 a3)
    · exact hs.elim
  · exact hs.elim

set_option maxHeartbeats 1000000 in
theorem jm_t_arraylength (hC : jm_Cx p R s m meth c D aC ba ex X n d B n0 t0) {i : Nat} {pc len : Nat} {res : List Int} {L : jm_L} {st : List jm_V} {h : jm_H} (he : P[i]? = some (pc, .arraylength, len, res)) (hdc : decode (jm_co n) pc = .ok (.arraylength, len)) (hck : jm_chk n P i (pc, .arraylength, len, res) = true)
    (hs : jm_sem X C B Q (jm_It p l e R s m args below meth c D aC ba ex P n B n0 t0 Qz) (pc, .arraylength, len, res) i L st h) : jm_It p l e R s m args below meth c D aC ba ex P n B n0 t0 Qz i L st h := by
  intro e' he' H locs cells slots ls hS hL hst
  cases he.symm.trans he'
  obtain ⟨hx, hb, hml, hown, hE, hXt, hsz, hin, hfr, hlo, hBc, hBs⟩ := hC
  simp only [jm_chk] at hck
  simp only [jm_sem] at hs
  obtain ⟨hl1, e1, g1, g2⟩ := jm_c_spec hck
  dsimp only at hl1 g2
  subst hl1
  split at hs
  · rename_i z r
    obtain ⟨-, hst⟩ := List.forall_mem_cons.mp hst
    obtain ⟨⟨hz1, hz2⟩, hs⟩ := hs
    obtain ⟨hT, hN, hr⟩ := hXt.1 (-2 - z).toNat (by omega)
    have kk := hs e1 g1 H locs cells slots ls hS hL (List.forall_mem_cons.mpr ⟨⟨by omega, by omega⟩, hst⟩)
    rw [g2] at kk
    rw [List.map_cons, jm_rv_ext hz1]
    exact va_tlen hx hb hT hS.2.2.1 (by rw [← Int32.ofInt_eq_ofNat]) hdc kk
  · exact hs.elim

end JMA
end
section
section JMN
variable {p : Program} {l : Launch} {e : Env} {R : Room} {s : State} {m : MethodId} {args : Array Value} {below : List Frame} {meth : Method} {c : Code} {D : va_G} {aC : Nat → ClassId} {ba : Nat} {ex : Nat → Nat}
variable {X : jm_X} {n d : Nat} {B : Nat × Nat} {n0 t0 : Nat} {P : List jm_E} {Qz : State → Prop} {C : jm_C} {Q : jm_Q}
theorem jm_m1 : jm_r (-1) := ⟨by decide, by decide⟩
theorem jm_w_ac : Cond.arrayClass .int ∈ lw_tbl := List.mem_of_getElem? (i := 108) (by decide +kernel)
theorem jm_w_az : Cond.arrayClass .boolean ∈ lw_tbl := List.mem_of_getElem? (i := 256) (by decide +kernel)
theorem jm_w_oi : Cond.instanceMethod objectInit ∈ lw_tbl := List.mem_of_getElem? (i := 90) (by decide +kernel)
theorem jm_w_oc : Cond.code objectInit ⟨#[0xb1]⟩ 1 none ∈ lw_tbl := List.mem_of_getElem? (i := 91) (by decide +kernel)
theorem jm_w_ys : Cond.static arraycopyName ∈ lw_tbl := List.mem_of_getElem? (i := 407) (by decide +kernel)
theorem jm_w_yn : Cond.native arraycopyName ∈ lw_tbl := List.mem_of_getElem? (i := 408) (by decide +kernel)
theorem jm_w_yi : Cond.initialized "java/lang/System" ∈ lw_tbl := List.mem_of_getElem? (i := 81) (by decide +kernel)
theorem jm_w_xs : Cond.static Lib.Math.min.name ∈ lw_tbl := List.mem_of_getElem? (i := 528) (by decide +kernel)
theorem jm_w_xc : Cond.code Lib.Math.min.name Lib.Math.min.code 2 (some .int) ∈ lw_tbl := List.mem_of_getElem? (i := 529) (by decide +kernel)
theorem jm_w_xi : Cond.initialized "java/lang/Math" ∈ lw_tbl := List.mem_of_getElem? (i := 82) (by decide +kernel)

set_option maxHeartbeats 1000000 in
theorem jm_t_newarray {ty : ArrayType} (hC : jm_Cx p R s m meth c D aC ba ex X n d B n0 t0) {i : Nat} {pc len : Nat} {res : List Int} {L : jm_L} {st : List jm_V} {h : jm_H} (he : P[i]? = some (pc, .newarray ty, len, res)) (hdc : decode (jm_co n) pc = .ok (.newarray ty, len)) (hck : jm_chk n P i (pc, .newarray ty, len, res) = true)
    (hs : jm_sem X C B Q (jm_It p l e R s m args below meth c D aC ba ex P n B n0 t0 Qz) (pc, .newarray ty, len, res) i L st h) : jm_It p l e R s m args below meth c D aC ba ex P n B n0 t0 Qz i L st h := by
  intro e' he' H locs cells slots ls hS hL hst
  cases he.symm.trans he'
  obtain ⟨hx, hb, hml, hown, hE, hXt, hsz, hin, hfr, hlo, hBc, hBs⟩ := hC
  simp only [jm_chk] at hck
  simp only [jm_sem] at hs
  obtain ⟨hl1, e1, g1, g2⟩ := jm_c_spec hck
  dsimp only at hl1 g2
  subst hl1
  split at hs
  · rename_i nn r k
    obtain ⟨hk, ⟨hn0, hn1⟩, ⟨hb1, hb2⟩, hs⟩ := hs
    obtain ⟨vn, hst⟩ := List.forall_mem_cons.mp hst
    have vn : jm_r nn := vn
    have h4 := hS.2.2.2.1
    have h5 := hS.2.2.2.2.1
    rcases hk with ⟨rfl, rfl⟩ | ⟨rfl, rfl⟩
    · refine va_newa (atype := .int) (a0 := (nn.toNat, .inl (fun _ => Int32.ofInt 0))) hx hb (jm_word hE jm_w_ac rfl args) (ty := .int) rfl hE.2.2.2 hS.1 (jm_ws_D aC ba ex h) hS.2.2.1 (fun q hq => by show ba ≤ q; omega) (fun cA => rfl) (jm_n0 vn hn0) (jm_nn vn) (by show nn.toNat * 4 ≤ 536870912; omega) (by omega) (by omega) hdc (fun q cA H1 hK1 hP1 hD1 hS1 => ?_)
      refine jm_Wsz (fun hz => ?_)
      have hq := jm_new_at hD1 hP1 (by omega)
      have hcA : cA = aC 0 := Option.some.inj ((hK1.2 5 _ rfl).2.symm.trans (hE.2.2.2.2 0 _ rfl).2)
      subst hq hcA
      have hent : (.inl (aC 0, (nn.toNat, .inl (fun _ => Int32.ofInt 0))) : va_E) = jm_ent aC ba ex h.1.length (0, nn.toNat, []) (jm_uc h.2 h.1.length (fun _ => 0)) := by simp [jm_ent, jm_uc]
      rw [hent, jm_ws_new] at hP1
      have kk := hs e1 g1 H1 locs (cells + 1) (slots + nn.toNat) ls ⟨hP1, jm_uc_r hS.2.1 jm_r0, hS1, by simp; omega, by simp [jm_tot_app]; omega, by simp; omega, by simp [jm_tot_app]; omega⟩ hL (List.forall_mem_cons.mpr ⟨trivial, hst⟩)
      rw [g2, List.map_cons, jm_len_ref] at kk
      exact kk
    · refine va_newa (atype := .boolean) (a0 := (nn.toNat, .inl (fun _ => Int32.ofInt 0))) hx hb (jm_word hE jm_w_az rfl args) (ty := .boolean) rfl hE.2.2.2 hS.1 (jm_ws_D aC ba ex h) hS.2.2.1 (fun q hq => by show ba ≤ q; omega) (fun cA => rfl) (jm_n0 vn hn0) (jm_nn vn) (by show nn.toNat * 1 ≤ 536870912; omega) (by omega) (by omega) hdc (fun q cA H1 hK1 hP1 hD1 hS1 => ?_)
      refine jm_Wsz (fun hz => ?_)
      have hq := jm_new_at hD1 hP1 (by omega)
      have hcA : cA = aC 1 := Option.some.inj ((hK1.2 5 _ rfl).2.symm.trans (hE.2.2.2.2 1 _ rfl).2)
      subst hq hcA
      have hent : (.inl (aC 1, (nn.toNat, .inl (fun _ => Int32.ofInt 0))) : va_E) = jm_ent aC ba ex h.1.length (1, nn.toNat, []) (jm_uc h.2 h.1.length (fun _ => 0)) := by simp [jm_ent, jm_uc]
      rw [hent, jm_ws_new] at hP1
      have kk := hs e1 g1 H1 locs (cells + 1) (slots + nn.toNat) ls ⟨hP1, jm_uc_r hS.2.1 jm_r0, hS1, by simp; omega, by simp [jm_tot_app]; omega, by simp; omega, by simp [jm_tot_app]; omega⟩ hL (List.forall_mem_cons.mpr ⟨trivial, hst⟩)
      rw [g2, List.map_cons, jm_len_ref] at kk
      exact kk
  · exact hs.elim

set_option maxHeartbeats 1000000 in
theorem jm_t_anewarray {x : Nat} (hC : jm_Cx p R s m meth c D aC ba ex X n d B n0 t0) {i : Nat} {pc len : Nat} {res : List Int} {L : jm_L} {st : List jm_V} {h : jm_H} (he : P[i]? = some (pc, .anewarray x, len, res)) (hdc : decode (jm_co n) pc = .ok (.anewarray x, len)) (hck : jm_chk n P i (pc, .anewarray x, len, res) = true)
    (hs : jm_sem X C B Q (jm_It p l e R s m args below meth c D aC ba ex P n B n0 t0 Qz) (pc, .anewarray x, len, res) i L st h) : jm_It p l e R s m args below meth c D aC ba ex P n B n0 t0 Qz i L st h := by
  intro e' he' H locs cells slots ls hS hL hst
  cases he.symm.trans he'
  obtain ⟨hx, hb, hml, hown, hE, hXt, hsz, hin, hfr, hlo, hBc, hBs⟩ := hC
  simp only [jm_chk, Bool.and_eq_true] at hck
  simp only [jm_sem] at hs
  obtain ⟨hc1, hc2⟩ := hck
  obtain ⟨hl1, e1, g1, g2⟩ := jm_c_spec hc1
  dsimp only at hl1 g2
  subst hl1
  split at hs
  · rename_i nn r k
    obtain ⟨hk, ⟨hn0, hn1⟩, ⟨hb1, hb2⟩, hs⟩ := hs
    obtain ⟨vn, hst⟩ := List.forall_mem_cons.mp hst
    have vn : jm_r nn := vn
    have h4 := hS.2.2.2.1
    have h5 := hS.2.2.2.2.1
    dsimp only at hc2
    obtain ⟨w, hw, hw2⟩ := jm_any hc2
    simp only [Bool.and_eq_true, Bool.or_eq_true, beq_iff_eq] at hw2
    obtain ⟨w1, w2, w3⟩ := hw2
    have hwd := jm_word hE (jm_hw_in (List.all_eq_true.mp jm_cl_ok w hw) _ List.mem_cons_self) rfl args
    unfold jm_clw at hwd
    rw [w1, w2] at hwd
    rcases w3 with ⟨rfl, w3⟩ | ⟨rfl, w3⟩ | ⟨rfl, w3⟩ <;> rw [w3] at hwd
    · refine va_newq (C := "MatNations$Mat") hx hb hown hwd hE.2.2.1.1 hE.2.2.2 hS.1 (jm_ws_D aC ba ex h) hS.2.2.1 (fun q hq => by show ba ≤ q; omega) (jm_n0 vn hn0) (jm_nn vn) (by omega) (by omega) (by omega) hdc (fun q cA H1 hK1 hP1 hD1 hS1 => ?_)
      refine jm_Wsz (fun hz => ?_)
      have hq := jm_new_at hD1 hP1 (by omega)
      have hcA : cA = aC 2 := by
        obtain ⟨_, _, _, _, _, z1⟩ := (hK1.2 5 _ rfl).2
        obtain ⟨_, _, _, _, _, z2⟩ := (hE.2.2.2.2 2 _ rfl).2
        exact Option.some.inj (z1.symm.trans z2)
      subst hq hcA
      have hent : (.inl (aC 2, nn.toNat, .inr (.inr (.inr (.inr (fun _ => none))))) : va_E) = jm_ent aC ba ex h.1.length (2, nn.toNat, []) (jm_uc h.2 h.1.length (fun _ => -1)) := by simp [jm_ent, jm_uc, jm_ro]
      rw [hent, jm_ws_new] at hP1
      have kk := hs e1 g1 H1 locs (cells + 1) (slots + nn.toNat) ls ⟨hP1, jm_uc_r hS.2.1 jm_m1, hS1, by simp; omega, by simp [jm_tot_app]; omega, by simp; omega, by simp [jm_tot_app]; omega⟩ hL (List.forall_mem_cons.mpr ⟨trivial, hst⟩)
      rw [g2, List.map_cons, jm_len_ref] at kk
      exact kk
    · refine va_newq (C := "MatNations$Comer") hx hb hown hwd hE.2.2.1.2.1 hE.2.2.2 hS.1 (jm_ws_D aC ba ex h) hS.2.2.1 (fun q hq => by show ba ≤ q; omega) (jm_n0 vn hn0) (jm_nn vn) (by omega) (by omega) (by omega) hdc (fun q cA H1 hK1 hP1 hD1 hS1 => ?_)
      refine jm_Wsz (fun hz => ?_)
      have hq := jm_new_at hD1 hP1 (by omega)
      have hcA : cA = aC 3 := by
        obtain ⟨_, _, _, _, _, z1⟩ := (hK1.2 5 _ rfl).2
        obtain ⟨_, _, _, _, _, z2⟩ := (hE.2.2.2.2 3 _ rfl).2
        exact Option.some.inj (z1.symm.trans z2)
      subst hq hcA
      have hent : (.inl (aC 3, nn.toNat, .inr (.inr (.inr (.inr (fun _ => none))))) : va_E) = jm_ent aC ba ex h.1.length (3, nn.toNat, []) (jm_uc h.2 h.1.length (fun _ => -1)) := by simp [jm_ent, jm_uc, jm_ro]
      rw [hent, jm_ws_new] at hP1
      have kk := hs e1 g1 H1 locs (cells + 1) (slots + nn.toNat) ls ⟨hP1, jm_uc_r hS.2.1 jm_m1, hS1, by simp; omega, by simp [jm_tot_app]; omega, by simp; omega, by simp [jm_tot_app]; omega⟩ hL (List.forall_mem_cons.mpr ⟨trivial, hst⟩)
      rw [g2, List.map_cons, jm_len_ref] at kk
      exact kk
    · refine va_newq (C := "MatNations$House") hx hb hown hwd hE.2.2.1.2.2 hE.2.2.2 hS.1 (jm_ws_D aC ba ex h) hS.2.2.1 (fun q hq => by show ba ≤ q; omega) (jm_n0 vn hn0) (jm_nn vn) (by omega) (by omega) (by omega) hdc (fun q cA H1 hK1 hP1 hD1 hS1 => ?_)
      refine jm_Wsz (fun hz => ?_)
      have hq := jm_new_at hD1 hP1 (by omega)
      have hcA : cA = aC 4 := by
        obtain ⟨_, _, _, _, _, z1⟩ := (hK1.2 5 _ rfl).2
        obtain ⟨_, _, _, _, _, z2⟩ := (hE.2.2.2.2 4 _ rfl).2
        exact Option.some.inj (z1.symm.trans z2)
      subst hq hcA
      have hent : (.inl (aC 4, nn.toNat, .inr (.inr (.inr (.inr (fun _ => none))))) : va_E) = jm_ent aC ba ex h.1.length (4, nn.toNat, []) (jm_uc h.2 h.1.length (fun _ => -1)) := by simp [jm_ent, jm_uc, jm_ro]
      rw [hent, jm_ws_new] at hP1
      have kk := hs e1 g1 H1 locs (cells + 1) (slots + nn.toNat) ls ⟨hP1, jm_uc_r hS.2.1 jm_m1, hS1, by simp; omega, by simp [jm_tot_app]; omega, by simp; omega, by simp [jm_tot_app]; omega⟩ hL (List.forall_mem_cons.mpr ⟨trivial, hst⟩)
      rw [g2, List.map_cons, jm_len_ref] at kk
      exact kk
  · exact hs.elim

set_option maxHeartbeats 1000000 in
theorem jm_t_new {x : Nat} (hC : jm_Cx p R s m meth c D aC ba ex X n d B n0 t0) {i : Nat} {pc len : Nat} {res : List Int} {L : jm_L} {st : List jm_V} {h : jm_H} (he : P[i]? = some (pc, .new x, len, res)) (hdc : decode (jm_co n) pc = .ok (.new x, len)) (hck : jm_chk n P i (pc, .new x, len, res) = true)
    (hs : jm_sem X C B Q (jm_It p l e R s m args below meth c D aC ba ex P n B n0 t0 Qz) (pc, .new x, len, res) i L st h) : jm_It p l e R s m args below meth c D aC ba ex P n B n0 t0 Qz i L st h := by
  intro e' he' H locs cells slots ls hS hL hst
  cases he.symm.trans he'
  obtain ⟨hx, hb, hml, hown, hE, hXt, hsz, hin, hfr, hlo, hBc, hBs⟩ := hC
  simp only [jm_chk, Bool.and_eq_true] at hck
  simp only [jm_sem] at hs
  obtain ⟨hc1, hc2⟩ := hck
  obtain ⟨hl1, e1, g1, g2⟩ := jm_c_spec hc1
  dsimp only at hl1 g2
  subst hl1
  split at hs
  · rename_i cl w
    obtain ⟨⟨hb1, hb2⟩, hs⟩ := hs
    have h4 := hS.2.2.2.1
    have h5 := hS.2.2.2.2.1
    simp only [Bool.and_eq_true, decide_eq_true_eq] at hc2
    obtain ⟨⟨hw0, hcl⟩, hany⟩ := hc2
    obtain ⟨q, hq, hq2⟩ := jm_any hany
    simp only [Bool.and_eq_true, beq_iff_eq] at hq2
    obtain ⟨w1, w2, w3⟩ := hq2
    have hwd := jm_word hE (jm_hw_in (List.all_eq_true.mp jm_cl_ok q hq) _ List.mem_cons_self) rfl args
    unfold jm_clw at hwd
    rw [w1, w2, w3] at hwd
    have hcl2 : cl.toNat < vwCl.length := hcl
    have hvc := List.getElem?_eq_getElem hcl2
    generalize vwCl[cl.toNat] = vc at hvc
    obtain ⟨hT, hN⟩ := jm_CN_T _ _ hvc
    obtain ⟨ty, hp, hnm, hu, hi, htk, hcn⟩ := jm_ck _ _ hvc
    rw [← hcn] at hwd
    have hwN : w.toNat = vc.2.2 := by rw [← hN]; omega
    refine va_new (ci := cl.toNat) (fs := jm_fs ba ex cl.toNat h.1.length (List.replicate w.toNat (-1)) (jm_uc h.2 h.1.length (fun _ => 0))) (C := vc.1) (T := vc.2.1) (N := vc.2.2) hx hb (jm_Tsb hE args) hu ty hp hown hwd (jm_Tsb hE args _ (hi _ (by simp))) (jm_Tsb hE args _ (hi _ (by simp))) hE.2.2.2 hS.1 (jm_ws_D aC ba ex h) hS.2.2.1 (fun q hq => by show ba ≤ q; omega) hvc ?_ (by omega) (by omega) hdc (fun q H1 hP1 hD1 hS1 => ?_)
    · intro j hj
      have hjN : j < jm_N cl.toNat := by rw [hN]; exact hj
      unfold vp_V
      rw [List.getD_eq_getElem?_getD, jm_fs_at hjN, Option.getD_some]
      have hty := (htk j hj).1
      rcases hty with ⟨a1, a2⟩ | ⟨a1, a2⟩ | ⟨a1, a2⟩
      · rw [a2, if_neg (by omega), jm_uc_self]; rfl
      · rw [a2, if_neg (by omega), jm_uc_self]; rfl
      · rw [if_pos a1]
        have hg : (List.replicate w.toNat (-1 : Int)).getD j (-1) = -1 := by rw [List.getD_eq_getElem?_getD, List.getElem?_replicate]; split <;> rfl
        rw [hg]
        cases hk : ty j <;> rw [hk] at a2 <;> first | rfl | cases a2
    · refine jm_Wsz (fun hz => ?_)
      have hq := jm_new_at hD1 hP1 (by omega)
      subst hq
      have hent : (.inr (cl.toNat, jm_fs ba ex cl.toNat h.1.length (List.replicate w.toNat (-1)) (jm_uc h.2 h.1.length (fun _ => 0))) : va_E) = jm_ent aC ba ex h.1.length (10 + cl.toNat, w.toNat, List.replicate w.toNat (-1)) (jm_uc h.2 h.1.length (fun _ => 0)) := (jm_ent_o (q := (10 + cl.toNat, w.toNat, List.replicate w.toNat (-1))) rfl).symm
      rw [hent, jm_ws_new] at hP1
      rw [← hwN]
      have kk := hs e1 g1 H1 locs (cells + 1) (slots + w.toNat) ls ⟨hP1, jm_uc_r hS.2.1 jm_r0, hS1, by simp; omega, by simp [jm_tot_app]; omega, by simp; omega, by simp [jm_tot_app]; omega⟩ hL (List.forall_mem_cons.mpr ⟨trivial, hst⟩)
      rw [g2, List.map_cons, jm_len_ref] at kk
      exact kk
  · exact hs.elim

end JMN
end
section
section JMI
variable {p : Program} {l : Launch} {e : Env} {R : Room} {s : State} {m : MethodId} {args : Array Value} {below : List Frame} {meth : Method} {c : Code} {D : va_G} {aC : Nat → ClassId} {ba : Nat} {ex : Nat → Nat}
variable {X : jm_X} {n d : Nat} {B : Nat × Nat} {n0 t0 : Nat} {P : List jm_E} {Qz : State → Prop} {C : jm_C} {Q : jm_Q}
/-- what a method makes -/
def jm_al (f : Nat) (h h' : jm_H) : Prop := h'.1.length = h.1.length + jm_mc f ∧ jm_tot h'.1 = jm_tot h.1 + jm_ms f
def jm_Pc (D : va_G) (aC : Nat → ClassId) (ba : Nat) (ex : Nat → Nat) (X : jm_X) (vs : List jm_V) (h : jm_H) : Array Value → State → Prop := fun a U =>
  a = (vs.map (jm_rv ba ex)).toArray ∧ jm_Env D aC U ∧ va_P D vwCl (jm_ws aC ba ex h) U.heap ∧ (∀ i j, jm_r (h.2 i j)) ∧ U.heap.size = ba + h.1.length ∧ jm_Ext ba ex X U U.heap ∧ ∀ v ∈ vs, jm_ok v
def jm_Qc (D : va_G) (aC : Nat → ClassId) (ba : Nat) (ex : Nat → Nat) (f : Nat) (h : jm_H) (Qk : jm_Q) : Array Value → State → Outcome → State → Prop := fun _ st o t =>
  (∃ (v : List jm_V) (h' : jm_H), Qk v h' ∧ jm_al f h h' ∧ o = .returned (v.map (jm_rv ba ex)).head? ∧ v.length ≤ 1 ∧ va_P D vwCl (jm_ws aC ba ex h') t.heap ∧ (∀ i j, jm_r (h'.2 i j)) ∧ ∀ x ∈ v, jm_ok x) ∧ va_F (fun q => ba ≤ q) st t
def jm_rm (d f : Nat) : Room := { frames := d, cells := jm_mc f, slots := jm_ms f, locals := 64 * d }
def jm_Mt (l : Launch) (D : va_G) (aC : Nat → ClassId) (ba : Nat) (ex : Nat → Nat) (X : jm_X) (d f : Nat) (vs : List jm_V) (h : jm_H) (Qk : jm_Q) : Prop :=
  Met l (jm_y f) [.code (jm_y f) (jm_co f) (jm_ma f) (jm_re f)] (jm_rm d f) (jm_Pc D aC ba ex X vs h) (jm_Qc D aC ba ex f h Qk) (jm_mc f) (jm_ms f) (fun q => ba ≤ q)
theorem jm_Pc_blind {vs : List jm_V} {h : jm_H} : FrameBlind (jm_Pc D aC ba ex X vs h) := by
  intro a U g mk hP
  obtain ⟨h1, h2, h3, h4, h5, h6, h7⟩ := hP
  exact ⟨h1, h2.warm (U := U.calling g mk a) (State.WarmedH.refl U), h3, h4, h5, h6.move (U := U.calling g mk a) (Vm.Alike.refl U.vm) (fun _ _ _ => rfl), h7⟩
/-- behind a call -/
theorem jm_after {f : Nat} {h : jm_H} {Qk : jm_Q} {H : Heap} {locs : List Loc} {cells slots pc : Nat} {ls : Array Slot} {st0 : List Value} {r : List jm_V} {a : Array Value} {L : jm_L} {i : Nat} {e1 : jm_E}
    (hr : va_Run p l e R s m args below meth c H locs cells slots (jm_mc f) (jm_ms f) (F0 m pc ls st0) (r.map (jm_rv ba ex)) (jm_Qc D aC ba ex f h Qk a) (fun q => ba ≤ q)) (hS : jm_Sim D aC ba ex s B n0 t0 h H locs cells slots) (hL : jm_LR ba ex ls (jm_ma n) L) (hst : ∀ v ∈ r, jm_ok v)
    (hB : h.1.length + jm_mc f ≤ B.1 ∧ jm_tot h.1 + jm_ms f ≤ B.2) (g1 : P[i]? = some e1) (g2 : e1.1 = pc + 3)
    (kk : ∀ (v : List jm_V) (h' : jm_H), Qk v h' → jm_It p l e R s m args below meth c D aC ba ex P n B n0 t0 Qz i L (v ++ r) h') : W p l e R s m args below meth c H locs cells slots Qz (F0 m pc ls st0) := by
  intro T hT Y
  obtain ⟨v, st₀, t, T', L', h0, Y', hL', y1, y2, ⟨⟨vv, h', hq, hal, hv, hvl, hP, hrg, hok⟩, hz, hk⟩, stp⟩ := hr T hT Y
  cases hv
  rw [h0] at hz hk
  obtain ⟨s1, s2, s3, s4, s5, s6, s7⟩ := hS
  have hst2 : ∀ x ∈ vv ++ r, jm_ok x := fun x hx => (List.mem_append.mp hx).elim (hok x) (hst x)
  have hmem : ∀ q ∈ locs ++ L', (fun q => ba ≤ q) q.base := fun q hq => (List.mem_append.mp hq).elim (s3.2.2 q) (hL' q)
  obtain ⟨t2, a1, b1⟩ := kk vv h' hq e1 g1 T'.heap (locs ++ L') (cells + jm_mc f) (slots + jm_ms f) ls ⟨by rw [y1]; exact hP, hrg, ⟨Nat.le_trans s3.1 (by rw [y1]; exact hz), fun q h1 h2 => by rw [y1, hk q (Nat.lt_of_lt_of_le h1 s3.1) h2]; exact s3.2.1 q h1 h2, hmem⟩, by have := hal.1; omega, by have := hal.2; omega, by have := hal.1; omega, by have := hal.2; omega⟩ hL hst2 T' rfl Y'
  rw [g2] at a1
  have hlist : (vv.map (jm_rv ba ex)).head?.toList ++ r.map (jm_rv ba ex) = (vv ++ r).map (jm_rv ba ex) := by
    rw [List.map_append]
    match vv, hvl with
    | [], _ => rfl
    | [x], _ => rfl
  refine ⟨t2, stp t2 ?_, b1⟩
  show Steps p.tables e below (T'.setTop (F0 m (pc + 3) ls ((vv.map (jm_rv ba ex)).head?.toList ++ r.map (jm_rv ba ex)))) t2
  rw [hlist]
  exact a1
theorem jm_mok_spec {f : Nat} (hf : f < 224) : (∀ w ∈ jm_miw (jm_in f), w ∈ lw_tbl) ∧ (jm_miw (jm_in f)).all goodWord = true ∧ plainName (jm_y f).cls = true ∧ ((jm_y f).cls ≠ "java/lang/invoke/MethodHandle" ∧ (jm_y f).cls ≠ "java/lang/invoke/VarHandle") ∧ (parseMethodDescriptor (jm_y f).desc).map (fun d => d.parameters.length) = some (jm_pa f) ∧ jm_ma f ≤ 45 ∧ jm_CN (jm_ow f) = (jm_y f).cls ∧ jm_ki f ≤ 2 ∧ (jm_ki f = 2 → (jm_y f).name = "<init>" ∧ jm_re f = none) ∧ (jm_ki f = 2 ∨ (jm_mc f = 0 ∧ jm_ms f = 0)) := by
  have hm := jm_mq_mem f hf
  have h2 := List.all_eq_true.mp jm_mq_ok _ hm
  simp only [jm_mok, Bool.and_eq_true, decide_eq_true_eq] at h2
  obtain ⟨a1, a2, a3, a4, a5, a6, a7, a8, a9, a10⟩ := h2
  exact ⟨jm_mq_w _ hm, a1, a2, ⟨a3, a4⟩, a5, a6, a7, a8, a9, a10⟩
/-- a method's word, at any state that the tables hold in -/
theorem jm_mword {f : Nat} (hf : f < 224) {U : State} (hE : jm_Env D aC U) {w : Cond} (hw : w ∈ jm_miw (jm_in f)) (a : Array Value) : w.before a U = true :=
  jm_word hE ((jm_mok_spec hf).1 w hw) (List.all_eq_true.mp (jm_mok_spec hf).2.1 w hw) a
theorem jm_miw_code (f : Nat) : Cond.code (jm_y f) (jm_co f) (jm_ma f) (jm_re f) ∈ jm_miw (jm_in f) := by
  unfold jm_miw
  exact List.mem_append_left _ List.mem_cons_self
theorem jm_miw_init (f : Nat) : Cond.initialized (jm_y f).cls ∈ jm_miw (jm_in f) := by
  unfold jm_miw
  exact List.mem_append_left _ (List.mem_cons_of_mem _ List.mem_cons_self)
theorem jm_miw_static {f : Nat} (h : jm_ki f = 1) : Cond.static (jm_y f) ∈ jm_miw (jm_in f) := by
  unfold jm_miw
  rw [if_pos (show (jm_in f).2.2.2.2.2.2.1 = 1 from h)]
  exact List.mem_append_right _ List.mem_cons_self
theorem jm_miw_inst {f : Nat} (h : jm_ki f ≠ 1) : Cond.instanceMethod (jm_y f) ∈ jm_miw (jm_in f) := by
  unfold jm_miw
  rw [if_neg (show ¬ (jm_in f).2.2.2.2.2.2.1 = 1 from h)]
  refine List.mem_append_right _ ?_
  split <;> exact List.mem_cons_self
theorem jm_miw_sel {f : Nat} (h : jm_ki f = 0) : Cond.selects (jm_y f).cls (jm_y f) (jm_y f) ∈ jm_miw (jm_in f) := by
  unfold jm_miw
  rw [if_neg (show ¬ (jm_in f).2.2.2.2.2.2.1 = 1 by intro q; rw [show (jm_in f).2.2.2.2.2.2.1 = 0 from h] at q; cases q), if_pos (show (jm_in f).2.2.2.2.2.2.1 = 0 from h)]
  exact List.mem_append_right _ (List.mem_cons_of_mem _ List.mem_cons_self)
theorem jm_callB {f x a : Nat} (hf : f < 224) (hE : jm_Env D aC s) (hl : (Cond.methodLink (jm_CN (jm_ow n)) x (jm_y f)).before args s = true) (hfr : d + 1 ≤ R.frames) (hlo : 64 * (d + 1) ≤ R.locals) (hpa : jm_pa f = a) :
    CallB R s args (jm_CN (jm_ow n)) x (jm_y f) (jm_co f) (jm_ma f) (jm_re f) [.code (jm_y f) (jm_co f) (jm_ma f) (jm_re f)] (jm_rm d f) (jm_mc f) (jm_ms f) a := by
  obtain ⟨m1, m2, m3, m4, m5, m6, m7, m8, m9⟩ := jm_mok_spec hf
  refine ⟨rfl, rfl, hfr, ?_, fun w hw a' U hW => ?_, List.mem_cons_self, jm_mword hf hE (jm_miw_code f) args, jm_mword hf hE (jm_miw_init f) args, m4, fun sig h => ?_, hl⟩
  · show 8 + (jm_ma f + 11) + 64 * d ≤ R.locals
    omega
  · rw [List.mem_singleton.mp hw]
    exact jm_mword hf (hE.warm hW) (jm_miw_code f) a'
  · rw [h] at m5
    exact hpa.symm.trans (Option.some.inj m5).symm
theorem jm_pre {vs : List jm_V} {h : jm_H} {H : Heap} {locs : List Loc} {cells slots : Nat} (hE : jm_Env D aC s) (hXt : jm_Ext ba ex X s s.heap) (hsz : s.heap.size = ba + n0) (hS : jm_Sim D aC ba ex s B n0 t0 h H locs cells slots) (hz : H.size ≤ s.heap.size + cells) (hok : ∀ v ∈ vs, jm_ok v) :
    ∀ U : State, U.heap = H → s.WarmedH U.vm → jm_Pc D aC ba ex X vs h (vs.map (jm_rv ba ex)).toArray U := by
  intro U hU hW
  obtain ⟨s1, s2, s3, s4, s5, s6, s7⟩ := hS
  refine ⟨rfl, hE.warm hW, by rw [hU]; exact s1, s2, ?_, ?_, hok⟩
  · have := jm_ge s1 (by have := s3.1; omega)
    rw [hU]
    omega
  · rw [hU]
    exact hXt.move hW.alike (fun a h1 h2 => s3.2.1 a h1 h2)

set_option maxHeartbeats 1000000 in
theorem jm_t_invokevirtual (hIH : ∀ (f : Nat) (vs : List jm_V) (h : jm_H) (Qk : jm_Q), f < 224 → C f vs h Qk → jm_Mt l D aC ba ex X d f vs h Qk) {x : Nat} (hC : jm_Cx p R s m meth c D aC ba ex X n d B n0 t0) {i : Nat} {pc len : Nat} {res : List Int} {L : jm_L} {st : List jm_V} {h : jm_H} (he : P[i]? = some (pc, .invokevirtual x, len, res)) (hdc : decode (jm_co n) pc = .ok (.invokevirtual x, len)) (hck : jm_chk n P i (pc, .invokevirtual x, len, res) = true)
    (hs : jm_sem X C B Q (jm_It p l e R s m args below meth c D aC ba ex P n B n0 t0 Qz) (pc, .invokevirtual x, len, res) i L st h) : jm_It p l e R s m args below meth c D aC ba ex P n B n0 t0 Qz i L st h := by
  intro e' he' H locs cells slots ls hS hL hst
  cases he.symm.trans he'
  obtain ⟨hx, hb, hml, hown, hE, hXt, hsz, hin, hfr, hlo, hBc, hBs⟩ := hC
  simp only [jm_chk, Bool.and_eq_true] at hck
  simp only [jm_sem] at hs
  obtain ⟨hc1, hc2⟩ := hck
  obtain ⟨hl1, e1, g1, g2⟩ := jm_c_spec hc1
  dsimp only at hl1 g2
  subst hl1
  split at hs
  · rename_i f a cl
    split at hs
    · rename_i z r hdr
      split at hs
      · rename_i q hq
        obtain ⟨⟨hz0, hr4, hkd⟩, hs⟩ := hs
        simp only [Bool.and_eq_true, decide_eq_true_eq] at hc2
        obtain ⟨⟨hf, hki, hpa, hcl, hcl2⟩, hany⟩ := hc2
        obtain ⟨w, hw, hw2⟩ := jm_any hany
        simp only [Bool.and_eq_true, beq_iff_eq] at hw2
        obtain ⟨w1, w2, w3⟩ := hw2
        have hwd := jm_word hE (jm_hw_in (List.all_eq_true.mp jm_ml_ok w hw) _ List.mem_cons_self) rfl args
        unfold jm_mlw at hwd
        rw [w1, w2, w3] at hwd
        obtain ⟨m1, m2, m3, m4, m5, m6, m7, m8, m9, m10⟩ := jm_mok_spec hf
        have hmc : jm_mc f.toNat = 0 ∧ jm_ms f.toNat = 0 := by rcases m10 with h9 | h9; omega; exact h9
        have hsplit : st = st.take a.toNat ++ (.inr (.inr z) :: r) := by rw [← hdr, List.take_append_drop]
        have hst1 : ∀ v ∈ st.take a.toNat, jm_ok v := fun v hv => hst v (by rw [hsplit]; exact List.mem_append_left _ hv)
        have hst2 : ∀ v ∈ r, jm_ok v := fun v hv => hst v (by rw [hsplit]; exact List.mem_append_right _ (List.mem_cons_of_mem _ hv))
        have hlen : (st.take a.toNat).length = a.toNat := by
          have h8 : st.length = (st.take a.toNat).length + (r.length + 1) := by
            have := congrArg List.length hsplit
            simpa using this
          rw [List.length_take] at h8 ⊢
          omega
        have hM := hIH f.toNat _ h _ hf hs
        have hent := jm_ws_at (aC := aC) (ba := ba) (ex := ex) hq
        rw [jm_ent_o hkd] at hent
        have hcl3 : cl.toNat < vwCl.length := hcl2
        have hvc := List.getElem?_eq_getElem hcl3
        generalize vwCl[cl.toNat] = vc at hvc
        obtain ⟨ty, -, -, -, -, -, hcn⟩ := jm_ck _ _ hvc
        refine jm_Wsz (fun hz => ?_)
        have hrecv := va_recv hE.2.2.2 hS.1 hvc hent
        rw [hcn, hcl, m7] at hrecv
        have hrun := va_runV (n := a.toNat) (nL := jm_ma n) (cc := jm_co n) (own := jm_CN (jm_ow n)) (index := x) (Ts := []) (C := (jm_y f.toNat).cls) (b := ba + z.toNat) (As := (st.take a.toNat).reverse.map (jm_rv ba ex)) (rest := r.map (jm_rv ba ex)) (g := F0 m pc ls (st.map (jm_rv ba ex))) (p := p) (e := e) (below := below) (meth := meth) (locs := locs) (cells := cells) (slots := slots)
          ⟨hx, hb, hml, hown, fun w h => absurd h List.not_mem_nil⟩ hM ⟨jm_callB hf hE hwd hfr hlo hpa, jm_mword hf hE (jm_miw_inst (by omega)) args, jm_mword hf hE (jm_miw_sel hki) args⟩
          ⟨jm_Pc_blind, hrecv, by
            have h7 := jm_pre (vs := .inr (.inr z) :: (st.take a.toNat).reverse) hE hXt hsz hS hz (List.forall_mem_cons.mpr ⟨trivial, fun v hv => hst1 v (List.mem_reverse.mp hv)⟩)
            rw [List.map_cons, jm_rv_own hz0] at h7
            exact h7⟩ rfl (by rw [List.length_map, List.length_reverse, hlen]) (hL.1) (by
            show st.map (jm_rv ba ex) = _
            rw [hsplit, List.map_append, List.map_cons, jm_rv_own hz0, ← List.map_reverse, List.reverse_reverse]
            simp [hlen]) (by
            have := jm_cat4 ba ex r hr4
            show 2 * 0 + _ ≤ 8
            omega) hdc ⟨by have h4 := hS.2.2.2.1; have h5 := hS.2.2.2.2.2.1; omega, by have h4 := hS.2.2.2.2.1; have h5 := hS.2.2.2.2.2.2; omega⟩
        exact jm_after hrun hS hL hst2 ⟨by have h5 := hS.2.2.2.2.2.1; omega, by have h5 := hS.2.2.2.2.2.2; omega⟩ g1 g2 (fun v h' hq => hq)
      · exact hs.elim
    · exact hs.elim
  · exact hs.elim

set_option maxHeartbeats 1000000 in
theorem jm_t_invokestatic (hIH : ∀ (f : Nat) (vs : List jm_V) (h : jm_H) (Qk : jm_Q), f < 224 → C f vs h Qk → jm_Mt l D aC ba ex X d f vs h Qk) {x : Nat} (hC : jm_Cx p R s m meth c D aC ba ex X n d B n0 t0) {i : Nat} {pc len : Nat} {res : List Int} {L : jm_L} {st : List jm_V} {h : jm_H} (he : P[i]? = some (pc, .invokestatic x, len, res)) (hdc : decode (jm_co n) pc = .ok (.invokestatic x, len)) (hck : jm_chk n P i (pc, .invokestatic x, len, res) = true)
    (hs : jm_sem X C B Q (jm_It p l e R s m args below meth c D aC ba ex P n B n0 t0 Qz) (pc, .invokestatic x, len, res) i L st h) : jm_It p l e R s m args below meth c D aC ba ex P n B n0 t0 Qz i L st h := by
  intro e' he' H locs cells slots ls hS hL hst
  cases he.symm.trans he'
  obtain ⟨hx, hb, hml, hown, hE, hXt, hsz, hin, hfr, hlo, hBc, hBs⟩ := hC
  simp only [jm_chk, Bool.and_eq_true] at hck
  simp only [jm_sem] at hs
  obtain ⟨hc1, hc2⟩ := hck
  obtain ⟨hl1, e1, g1, g2⟩ := jm_c_spec hc1
  dsimp only at hl1 g2
  subst hl1
  split at hs
  · rename_i f a
    obtain ⟨⟨hal, hr4⟩, hs⟩ := hs
    simp only [Bool.and_eq_true, decide_eq_true_eq] at hc2
    obtain ⟨⟨hf, hki, hpa⟩, hany⟩ := hc2
    obtain ⟨w, hw, hw2⟩ := jm_any hany
    simp only [Bool.and_eq_true, beq_iff_eq] at hw2
    obtain ⟨w1, w2, w3⟩ := hw2
    have hwd := jm_word hE (jm_hw_in (List.all_eq_true.mp jm_ml_ok w hw) _ List.mem_cons_self) rfl args
    unfold jm_mlw at hwd
    rw [w1, w2, w3] at hwd
    obtain ⟨m1, m2, m3, m4, m5, m6, m7, m8, m9, m10⟩ := jm_mok_spec hf
    have hmc : jm_mc f.toNat = 0 ∧ jm_ms f.toNat = 0 := by rcases m10 with h9 | h9; omega; exact h9
    have hst1 : ∀ v ∈ st.take a.toNat, jm_ok v := fun v hv => hst v (List.mem_of_mem_take hv)
    have hst2 : ∀ v ∈ st.drop a.toNat, jm_ok v := fun v hv => hst v (List.mem_of_mem_drop hv)
    have hlen : (st.take a.toNat).length = a.toNat := by rw [List.length_take]; omega
    have hM := hIH f.toNat _ h _ hf hs
    refine jm_Wsz (fun hz => ?_)
    have hrun := va_runS (n := a.toNat) (nL := jm_ma n) (cc := jm_co n) (own := jm_CN (jm_ow n)) (index := x) (Ts := []) (As := (st.take a.toNat).reverse.map (jm_rv ba ex)) (rest := (st.drop a.toNat).map (jm_rv ba ex)) (g := F0 m pc ls (st.map (jm_rv ba ex))) (p := p) (e := e) (below := below) (meth := meth) (locs := locs) (cells := cells) (slots := slots)
      ⟨hx, hb, hml, hown, fun w h => absurd h List.not_mem_nil⟩ hM ⟨jm_callB hf hE hwd hfr hlo hpa, jm_mword hf hE (jm_miw_static hki) args⟩
      ⟨jm_Pc_blind, jm_pre (vs := (st.take a.toNat).reverse) hE hXt hsz hS hz (fun v hv => hst1 v (List.mem_reverse.mp hv))⟩ rfl (by rw [List.length_map, List.length_reverse, hlen]) (hL.1) (by
        show st.map (jm_rv ba ex) = _
        rw [← List.map_reverse, List.reverse_reverse, ← List.map_append, List.take_append_drop]) (by
        have := jm_cat4 ba ex _ hr4
        show 2 * 0 + _ ≤ 8
        omega) hdc ⟨by have h4 := hS.2.2.2.1; have h5 := hS.2.2.2.2.2.1; omega, by have h4 := hS.2.2.2.2.1; have h5 := hS.2.2.2.2.2.2; omega⟩
    exact jm_after hrun hS hL hst2 ⟨by have h5 := hS.2.2.2.2.2.1; omega, by have h5 := hS.2.2.2.2.2.2; omega⟩ g1 g2 (fun v h' hq => hq)
  · rename_i f
    split at hs
    · rename_i b a r
      obtain ⟨hr4, hs⟩ := hs
      obtain ⟨vb, hst⟩ := List.forall_mem_cons.mp hst
      obtain ⟨va, hst⟩ := List.forall_mem_cons.mp hst
      have va : jm_r a := va
      have vb : jm_r b := vb
      obtain ⟨w, hw, hw2⟩ := jm_any hc2
      simp only [Bool.and_eq_true, beq_iff_eq] at hw2
      have hwd := jm_word hE (jm_hw_in (List.all_eq_true.mp jm_xl_ok w hw) _ List.mem_cons_self) rfl args
      unfold jm_xlw at hwd
      rw [hw2.1, hw2.2] at hwd
      have hmin : jm_r (min a b) := ⟨by omega, by omega⟩
      have kk := hs e1 g1 H locs cells slots ls hS hL (List.forall_mem_cons.mpr ⟨hmin, hst⟩)
      rw [g2] at kk
      have h8 := jm_cat4 ba ex r hr4
      refine va_mmin hx hb (hml.trans hL.1.symm) hown hwd (jm_word hE jm_w_xs rfl args) (jm_word hE jm_w_xi rfl args) (jm_word hE jm_w_xc rfl args) (by omega) (by omega) (by have h4 := hS.2.2.2.1; have h5 := hS.2.2.2.2.2.1; omega) (by have h4 := hS.2.2.2.2.1; have h5 := hS.2.2.2.2.2.2; omega) hdc ?_
      have hE2 : (if Int32.ofInt b < Int32.ofInt a then Int32.ofInt b else Int32.ofInt a) = Int32.ofInt (min a b) := by
        by_cases hlt : b < a
        · rw [if_pos ((jm_lt vb va).mpr hlt), show min a b = b by omega]
        · rw [if_neg (fun q => hlt ((jm_lt vb va).mp q)), show min a b = a by omega]
      rw [hE2]
      exact kk
    · exact hs.elim
  · split at hs
    · rename_i nn dp dd sp qq r
      split at hs
      · rename_i s1 t1 hq1 hd1
        obtain ⟨⟨hq0, hd0, hk1, hk2, hr4⟩, ⟨⟨hsp, hdp, hnn⟩, hb1, hb2⟩, hs⟩ := hs
        obtain ⟨vn, hst⟩ := List.forall_mem_cons.mp hst
        obtain ⟨vdp, hst⟩ := List.forall_mem_cons.mp hst
        obtain ⟨-, hst⟩ := List.forall_mem_cons.mp hst
        obtain ⟨vsp, hst⟩ := List.forall_mem_cons.mp hst
        obtain ⟨-, hst⟩ := List.forall_mem_cons.mp hst
        have vn : jm_r nn := vn
        have vdp : jm_r dp := vdp
        have vsp : jm_r sp := vsp
        obtain ⟨w, hw, hw2⟩ := jm_any hc2
        simp only [Bool.and_eq_true, beq_iff_eq] at hw2
        have hwd := jm_word hE (jm_hw_in (List.all_eq_true.mp jm_yl_ok w hw) _ List.mem_cons_self) rfl args
        unfold jm_ylw at hwd
        rw [hw2.1, hw2.2] at hwd
        have hen1 := jm_ws_at (aC := aC) (ba := ba) (ex := ex) hq1
        rw [jm_ent_i (by omega), hk1] at hen1
        have hen2 := jm_ws_at (aC := aC) (ba := ba) (ex := ex) hd1
        rw [jm_ent_i (by omega), hk2] at hen2
        have hqz : ((qq.toNat : Nat) : Int) = qq := Int.toNat_of_nonneg hq0
        have hdz : ((dd.toNat : Nat) : Int) = dd := Int.toNat_of_nonneg hd0
        have h8 := jm_cat4 ba ex r hr4
        have hnw : nativeFrameWords "java/lang/System" "arraycopy" 5 ≤ 40 := by decide +kernel
        simp only [List.map_cons]
        rw [jm_rv_own (z := dd) hd0, jm_rv_own (z := qq) hq0]
        refine va_copyi hx hb (hml.trans hL.1.symm) hown hwd (jm_word hE jm_w_yn rfl args) (jm_word hE jm_w_ys rfl args) (jm_word hE jm_w_yi rfl args) hE.2.2.2 hS.1 (jm_ws_D aC ba ex h) hS.2.2.1 qq.toNat dd.toNat 0 0 hen1 hen2 rfl rfl rfl (jm_n0 vsp hsp) (jm_n0 vdp hdp) (jm_n0 vn hnn) (by rw [jm_nn vsp, jm_nn vn]; omega) (by rw [jm_nn vdp, jm_nn vn]; omega) (fun _ _ => rfl) (by omega) (by omega) hdc (fun H1 locs1 a1 _ a3 => ?_)
        have hset : (jm_ws aC ba ex h).set dd.toNat (ba + dd.toNat, .inl (aC 0, t1.2.1, .inl (va_cpy (fun j => Int32.ofInt (h.2 qq.toNat j)) (fun j => Int32.ofInt (h.2 dd.toNat j)) (Int32.ofInt sp).toNatClampNeg (Int32.ofInt dp).toNatClampNeg (Int32.ofInt nn).toNatClampNeg))) = jm_ws aC ba ex (h.1, jm_uc h.2 dd (jm_cpy (h.2 qq) (h.2 dd) sp dp nn)) := by
          refine jm_ws_set rfl hd1 ?_ (fun b hb => ⟨rfl, jm_uc_ne (by omega)⟩)
          rw [jm_ent_i (by omega), hk2, jm_nn vsp, jm_nn vdp, jm_nn vn]
          congr 4
          funext b
          simp only [hqz, hdz, jm_uc_self, jm_cpy, va_cpy]
          by_cases hbj : dp.toNat ≤ b ∧ b < dp.toNat + nn.toNat
          · rw [if_pos hbj, if_pos (by omega)]
            rw [show ((sp.toNat + (b - dp.toNat) : Nat) : Int) = sp + ((b : Int) - dp) by omega]
          · rw [if_neg hbj, if_neg (by omega)]
        rw [hset] at a1
        have hrg : ∀ i j, jm_r (jm_uc h.2 dd (jm_cpy (h.2 qq) (h.2 dd) sp dp nn) i j) := by
          intro i j
          unfold jm_uc jm_cpy
          split
          · dsimp only
            split
            · exact hS.2.1 _ _
            · exact hS.2.1 _ _
          · exact hS.2.1 i j
        have kk := hs e1 g1 H1 locs1 cells slots ls ⟨a1, hrg, a3, hS.2.2.2⟩ hL hst
        rw [g2] at kk
        exact kk
      · exact hs.elim
    · exact hs.elim
  · exact hs.elim

set_option maxHeartbeats 1000000 in
theorem jm_t_invokespecial (hIH : ∀ (f : Nat) (vs : List jm_V) (h : jm_H) (Qk : jm_Q), f < 224 → C f vs h Qk → jm_Mt l D aC ba ex X d f vs h Qk) {x : Nat} (hC : jm_Cx p R s m meth c D aC ba ex X n d B n0 t0) {i : Nat} {pc len : Nat} {res : List Int} {L : jm_L} {st : List jm_V} {h : jm_H} (he : P[i]? = some (pc, .invokespecial x, len, res)) (hdc : decode (jm_co n) pc = .ok (.invokespecial x, len)) (hck : jm_chk n P i (pc, .invokespecial x, len, res) = true)
    (hs : jm_sem X C B Q (jm_It p l e R s m args below meth c D aC ba ex P n B n0 t0 Qz) (pc, .invokespecial x, len, res) i L st h) : jm_It p l e R s m args below meth c D aC ba ex P n B n0 t0 Qz i L st h := by
  intro e' he' H locs cells slots ls hS hL hst
  cases he.symm.trans he'
  obtain ⟨hx, hb, hml, hown, hE, hXt, hsz, hin, hfr, hlo, hBc, hBs⟩ := hC
  simp only [jm_chk, Bool.and_eq_true] at hck
  simp only [jm_sem] at hs
  obtain ⟨hc1, hc2⟩ := hck
  obtain ⟨hl1, e1, g1, g2⟩ := jm_c_spec hc1
  dsimp only at hl1 g2
  subst hl1
  split at hs
  · rename_i f mc ms
    split at hs
    · rename_i z r
      obtain ⟨⟨hz0, hr4⟩, ⟨hb1, hb2⟩, hs⟩ := hs
      simp only [Bool.and_eq_true, Bool.or_eq_true, decide_eq_true_eq] at hc2
      obtain ⟨⟨hf, hki, hpa, hmc, hms⟩, hany⟩ := hc2
      obtain ⟨m1, m2, m3, m4, m5, m6, m7, m8, m9, m10⟩ := jm_mok_spec hf
      obtain ⟨-, hst2⟩ := List.forall_mem_cons.mp hst
      have hM := hIH f.toNat _ h _ hf hs
      refine jm_Wsz (fun hz => ?_)
      have h4 := hS.2.2.2.1
      have h5 := hS.2.2.2.2.1
      have hcat : 2 * (F0 m pc ls (((.inr (.inr z) :: r : List jm_V)).map (jm_rv ba ex))).monitorRoom + ((r.map (jm_rv ba ex)).map fun v => v.category).sum ≤ 8 := by
        have := jm_cat4 ba ex r hr4
        show 2 * 0 + _ ≤ 8
        omega
      have hpre : PreS s H (jm_Pc D aC ba ex X [.inr (.inr z)] h) (.ref (ba + z.toNat) :: []) := ⟨jm_Pc_blind, by
        have h7 := jm_pre (vs := [.inr (.inr z)]) hE hXt hsz hS hz (List.forall_mem_cons.mpr ⟨trivial, fun v hv => absurd hv List.not_mem_nil⟩)
        rw [List.map_cons, jm_rv_own hz0] at h7
        exact h7⟩
      have hstk : (F0 m pc ls (((.inr (.inr z) :: r : List jm_V)).map (jm_rv ba ex))).stack = ([] : List Value).reverse ++ .ref (ba + z.toNat) :: r.map (jm_rv ba ex) := by
        show (((.inr (.inr z) :: r : List jm_V)).map (jm_rv ba ex)) = _
        rw [List.map_cons, jm_rv_own hz0]
        rfl
      have hre : jm_re f.toNat = none := (m9 hki).2
      unfold jm_Mt at hM
      rw [hre] at hM
      have hcode := jm_mword hf hE (jm_miw_code f.toNat) args
      rw [hre] at hcode
      rcases hany with hany | hany
      · obtain ⟨w, hw, hw2⟩ := jm_any hany
        simp only [Bool.and_eq_true, beq_iff_eq] at hw2
        obtain ⟨w1, w2, w3⟩ := hw2
        have hwd := jm_word hE (jm_hw_in (List.all_eq_true.mp jm_ml_ok w hw) _ List.mem_cons_self) rfl args
        unfold jm_mlw at hwd
        rw [w1, w2, w3] at hwd
        have hcb := jm_callB hf hE hwd hfr hlo hpa
        rw [hre] at hcb
        have hrun := va_runI (n := 0) (nL := jm_ma n) (cc := jm_co n) (own := jm_CN (jm_ow n)) (index := x) (Ts := []) (b := ba + z.toNat) (As := []) (rest := r.map (jm_rv ba ex)) (g := F0 m pc ls (((.inr (.inr z) :: r : List jm_V)).map (jm_rv ba ex))) (p := p) (e := e) (below := below) (meth := meth) (locs := locs) (cells := cells) (slots := slots)
          ⟨hx, hb, hml, hown, fun w h => absurd h List.not_mem_nil⟩ hM ⟨hcb, (m9 hki).1, jm_mword hf hE (jm_miw_inst (by omega)) args⟩ hpre rfl rfl (hL.1) hstk hcat hdc ⟨by omega, by omega⟩
        exact jm_after hrun hS hL hst2 ⟨by omega, by omega⟩ g1 g2 (fun v h' hq => hq)
      · obtain ⟨w, hw, hw2⟩ := jm_any hany
        simp only [Bool.and_eq_true, beq_iff_eq] at hw2
        obtain ⟨w1, w2, w3⟩ := hw2
        have hwd := hE.2.1 w hw
        unfold jm_nlw at hwd
        rw [w1, w2, w3] at hwd
        have hcn : va_CN R s args (jm_CN (jm_ow n)) x (jm_y f.toNat) "MatNations" (jm_co f.toNat) (jm_ma f.toNat) none [.code (jm_y f.toNat) (jm_co f.toNat) (jm_ma f.toNat) none] (jm_rm d f.toNat) (jm_mc f.toNat) (jm_ms f.toNat) 0 := by
          refine ⟨⟨rfl, rfl, hfr, ?_, fun w hw a' U hW => ?_, List.mem_cons_self⟩, hcode, jm_mword hf hE (jm_miw_init f.toNat) args, m4, fun sig h => ?_, va_Nw.use rfl hwd⟩
          · show 8 + (jm_ma f.toNat + 11) + 64 * d ≤ R.locals
            omega
          · rw [List.mem_singleton.mp hw]
            have := jm_mword hf (hE.warm hW) (jm_miw_code f.toNat) a'
            rw [hre] at this
            exact this
          · rw [h] at m5
            exact hpa.symm.trans (Option.some.inj m5).symm
        have hrun := va_runIN (n := 0) (nL := jm_ma n) (cc := jm_co n) (own := jm_CN (jm_ow n)) (index := x) (Ts := []) (b := ba + z.toNat) (As := []) (rest := r.map (jm_rv ba ex)) (g := F0 m pc ls (((.inr (.inr z) :: r : List jm_V)).map (jm_rv ba ex))) (p := p) (e := e) (below := below) (meth := meth) (locs := locs) (cells := cells) (slots := slots)
          ⟨hx, hb, hml, hown, fun w h => absurd h List.not_mem_nil⟩ hM ⟨hcn, (m9 hki).1, jm_mword hf hE (jm_miw_inst (by omega)) args⟩ hpre rfl rfl (hL.1) hstk hcat hdc ⟨by omega, by omega⟩
        exact jm_after hrun hS hL hst2 ⟨by omega, by omega⟩ g1 g2 (fun v h' hq => hq)
    · exact hs.elim
  · split at hs
    · rename_i z r
      obtain ⟨⟨hz0, hr4⟩, hs⟩ := hs
      obtain ⟨-, hst2⟩ := List.forall_mem_cons.mp hst
      obtain ⟨w, hw, hw2⟩ := jm_any hc2
      simp only [Bool.and_eq_true, beq_iff_eq] at hw2
      have hwd := jm_word hE (jm_hw_in (List.all_eq_true.mp jm_ol_ok w hw) _ List.mem_cons_self) rfl args
      unfold jm_olw at hwd
      rw [hw2.1, hw2.2] at hwd
      have kk := hs e1 g1 H locs cells slots ls hS hL hst2
      rw [g2] at kk
      have h8 := jm_cat4 ba ex r hr4
      rw [List.map_cons, jm_rv_own hz0]
      refine W.objInit hx hb hown hwd (jm_word hE jm_w_oi rfl args) (jm_word hE jm_w_oc rfl args) rfl (by rw [hml]; exact hL.1) rfl hdc (by omega) ?_ kk
      show 2 * 0 + _ + 12 ≤ R.locals
      omega
    · exact hs.elim
  · exact hs.elim

end JMI
end
section
section JMF
variable {p : Program} {l : Launch} {e : Env} {R : Room} {s : State} {m : MethodId} {args : Array Value} {below : List Frame} {meth : Method} {c : Code} {D : va_G} {aC : Nat → ClassId} {ba : Nat} {ex : Nat → Nat}
variable {X : jm_X} {n d : Nat} {B : Nat × Nat} {n0 t0 : Nat} {P : List jm_E} {Qz : State → Prop} {C : jm_C} {Q : jm_Q}
set_option maxHeartbeats 2000000 in
theorem jm_closed (hC : jm_Cx p R s m meth c D aC ba ex X n d B n0 t0) (hD : jm_ckD n P = true) (hP : jm_ckP n P = true)
    (hIH : ∀ (f : Nat) (vs : List jm_V) (h : jm_H) (Qk : jm_Q), f < 224 → C f vs h Qk → jm_Mt l D aC ba ex X d f vs h Qk)
    (hrI : ∀ (z : Int) (h : jm_H) (H : Heap) (locs : List Loc) (cells slots : Nat) (ls : Array Slot) (pc : Nat), decode (jm_co n) pc = .ok (.ireturn, 1) → jm_r z → (jm_re n = some .int ∨ (jm_re n = some .boolean ∧ (z = 0 ∨ z = 1))) → Q [.inl z] h → jm_Sim D aC ba ex s B n0 t0 h H locs cells slots → W p l e R s m args below meth c H locs cells slots Qz (F0 m pc ls [.int (Int32.ofInt z)]))
    (hrV : ∀ (h : jm_H) (H : Heap) (locs : List Loc) (cells slots : Nat) (ls : Array Slot) (pc : Nat), decode (jm_co n) pc = .ok (.return_, 1) → jm_re n = none → Q [] h → jm_Sim D aC ba ex s B n0 t0 h H locs cells slots → W p l e R s m args below meth c H locs cells slots Qz (F0 m pc ls []))
    (i : Nat) (en : jm_E) (L : jm_L) (st : List jm_V) (h : jm_H) (he : P[i]? = some en) (hs : jm_sem X C B Q (jm_It p l e R s m args below meth c D aC ba ex P n B n0 t0 Qz) en i L st h) : jm_It p l e R s m args below meth c D aC ba ex P n B n0 t0 Qz i L st h := by
  have hdc := jm_ckD_spec hD he
  have hck := jm_ckP_spec hP he
  obtain ⟨pc, ins, len, res⟩ := en
  dsimp only at hdc
  cases ins
  case ireturn =>
    intro e' he' H locs cells slots ls hS hL hst
    cases he.symm.trans he'
    simp only [jm_chk, Bool.and_eq_true, beq_iff_eq] at hck
    simp only [jm_sem] at hs
    obtain ⟨hc1, hc2⟩ := hck
    subst hc1
    split at hs
    · rename_i v t
      simp only [decide_eq_true_eq] at hc2
      have hv := hst _ List.mem_cons_self
      refine hrI v h H locs cells slots ls pc hdc hv ?_ hs.2 hS
      rcases hc2 with ⟨rfl, h2⟩ | ⟨rfl, h2⟩
      · exact Or.inl h2
      · rcases hs.1 with h3 | ⟨-, h3⟩
        · cases h3
        · exact Or.inr ⟨h2, h3⟩
    · exact hs.elim
  case return_ =>
    intro e' he' H locs cells slots ls hS hL hst
    cases he.symm.trans he'
    simp only [jm_chk, Bool.and_eq_true, beq_iff_eq, decide_eq_true_eq] at hck
    simp only [jm_sem] at hs
    obtain ⟨hc1, hc2⟩ := hck
    subst hc1
    split at hs
    · exact hrV h H locs cells slots ls pc hdc hc2 hs hS
    · exact hs.elim
  case iconst => exact jm_t_iconst hC he hdc hck hs
  case bipush => exact jm_t_bipush hC he hdc hck hs
  case sipush => exact jm_t_sipush hC he hdc hck hs
  case ldc => exact jm_t_ldc hC he hdc hck hs
  case ldc_w => exact jm_t_ldc_w hC he hdc hck hs
  case ldc2_w => exact jm_t_ldc2_w hC he hdc hck hs
  case lconst => exact jm_t_lconst hC he hdc hck hs
  case iload => exact jm_t_iload hC he hdc hck hs
  case iload_n => exact jm_t_iload_n hC he hdc hck hs
  case lload => exact jm_t_lload hC he hdc hck hs
  case lload_n => exact jm_t_lload_n hC he hdc hck hs
  case aload => exact jm_t_aload hC he hdc hck hs
  case aload_n => exact jm_t_aload_n hC he hdc hck hs
  case istore => exact jm_t_istore hC he hdc hck hs
  case istore_n => exact jm_t_istore_n hC he hdc hck hs
  case lstore => exact jm_t_lstore hC he hdc hck hs
  case lstore_n => exact jm_t_lstore_n hC he hdc hck hs
  case astore => exact jm_t_astore hC he hdc hck hs
  case astore_n => exact jm_t_astore_n hC he hdc hck hs
  case iinc => exact jm_t_iinc hC he hdc hck hs
  case iadd => exact jm_t_iadd hC he hdc hck hs
  case isub => exact jm_t_isub hC he hdc hck hs
  case imul => exact jm_t_imul hC he hdc hck hs
  case idiv => exact jm_t_idiv hC he hdc hck hs
  case irem => exact jm_t_irem hC he hdc hck hs
  case ineg => exact jm_t_ineg hC he hdc hck hs
  case iand => exact jm_t_iand hC he hdc hck hs
  case ior => exact jm_t_ior hC he hdc hck hs
  case ixor => exact jm_t_ixor hC he hdc hck hs
  case ishl => exact jm_t_ishl hC he hdc hck hs
  case ishr => exact jm_t_ishr hC he hdc hck hs
  case iushr => exact jm_t_iushr hC he hdc hck hs
  case i2l => exact jm_t_i2l hC he hdc hck hs
  case l2i => exact jm_t_l2i hC he hdc hck hs
  case i2b => exact jm_t_i2b hC he hdc hck hs
  case i2s => exact jm_t_i2s hC he hdc hck hs
  case ladd => exact jm_t_ladd hC he hdc hck hs
  case lmul => exact jm_t_lmul hC he hdc hck hs
  case lrem => exact jm_t_lrem hC he hdc hck hs
  case lcmp => exact jm_t_lcmp hC he hdc hck hs
  case dup => exact jm_t_dup hC he hdc hck hs
  case dup2 => exact jm_t_dup2 hC he hdc hck hs
  case pop => exact jm_t_pop hC he hdc hck hs
  case ifCond => exact jm_t_ifCond hC he hdc hck hs
  case if_icmp => exact jm_t_if_icmp hC he hdc hck hs
  case goto => exact jm_t_goto hC he hdc hck hs
  case tableswitch => exact jm_t_tableswitch hC he hdc hck hs
  case lookupswitch => exact jm_t_lookupswitch hC he hdc hck hs
  case getfield => exact jm_t_getfield hC he hdc hck hs
  case putfield => exact jm_t_putfield hC he hdc hck hs
  case getstatic => exact jm_t_getstatic hC he hdc hck hs
  case iaload => exact jm_t_iaload hC he hdc hck hs
  case baload => exact jm_t_baload hC he hdc hck hs
  case aaload => exact jm_t_aaload hC he hdc hck hs
  case iastore => exact jm_t_iastore hC he hdc hck hs
  case bastore => exact jm_t_bastore hC he hdc hck hs
  case aastore => exact jm_t_aastore hC he hdc hck hs
  case arraylength => exact jm_t_arraylength hC he hdc hck hs
  case newarray => exact jm_t_newarray hC he hdc hck hs
  case anewarray => exact jm_t_anewarray hC he hdc hck hs
  case new => exact jm_t_new hC he hdc hck hs
  case invokevirtual => exact jm_t_invokevirtual hIH hC he hdc hck hs
  case invokestatic => exact jm_t_invokestatic hIH hC he hdc hck hs
  case invokespecial => exact jm_t_invokespecial hIH hC he hdc hck hs
  all_goals exact absurd hs (by simp only [jm_sem]; exact id)
/-- the call of method f, in the small machine: at most d calls stand open at once -/
def jm_CW (X : jm_X) (PP : Nat → List jm_E) : Nat → jm_C
  | 0, _, _, _, _ => False
  | d + 1, f, vs, h, Q => (jm_loc vs).length ≤ jm_ma f ∧ jm_WP X (jm_CW X PP d) (h.1.length + jm_mc f, jm_tot h.1 + jm_ms f) (PP f) (fun v h' => jm_al f h h' ∧ Q v h') 0 (jm_loc vs ++ List.replicate (jm_ma f - (jm_loc vs).length) none) [] h
theorem jm_CW_mono (X : jm_X) (PP : Nat → List jm_E) : ∀ d, jm_mono (jm_CW X PP d)
  | 0 => fun _ _ _ _ _ _ q => q
  | _ + 1 => fun _ _ _ _ _ hQ q => ⟨q.1, jm_WP_Q (fun v h z => ⟨z.1, hQ v h z.2⟩) q.2⟩
/-- the programs are the methods' own -/
def jm_ckA (PP : Nat → List jm_E) : Prop := ∀ f, f < 224 → (jm_ckD f (PP f) = true ∧ jm_ckP f (PP f) = true ∧ jm_go (PP f) 0 0 = true)
theorem jm_entry {vs : List jm_V} {nL : Nat} (hl : (jm_loc vs).length ≤ nL) (hok : ∀ v ∈ vs, jm_ok v) : jm_LR ba ex ((lg_sl (vs.map (jm_rv ba ex)) ++ List.replicate (nL - (lg_sl (vs.map (jm_rv ba ex))).length) Slot.unset).toArray) nL (jm_loc vs ++ List.replicate (nL - (jm_loc vs).length) none) := by
  have h1 := lv_entry (vs.map (jm_rv ba ex)) (n := nL) (by rw [jm_loc_len]; exact hl)
  refine ⟨h1.1, h1.2.1, fun k v hk => ?_⟩
  by_cases hlt : k < (jm_loc vs).length
  · rw [List.getElem?_append_left hlt] at hk
    obtain ⟨a, b⟩ := jm_loc_entry ba ex vs 0 k v hk
    have h2 := h1.2.2 _ a
    rw [Nat.zero_add] at h2
    exact ⟨h2, hok v b⟩
  · rw [List.getElem?_append_right (by omega), List.getElem?_replicate] at hk
    split at hk <;> cases hk
set_option maxHeartbeats 1000000 in
theorem jm_sound {PP : Nat → List jm_E} (hPP : jm_ckA PP) (l : Launch) (D : va_G) (aC : Nat → ClassId) (ba : Nat) (ex : Nat → Nat) (X : jm_X) : ∀ (d f : Nat) (vs : List jm_V) (h : jm_H) (Q : jm_Q), f < 224 → jm_CW X PP d f vs h Q → jm_Mt l D aC ba ex X d f vs h Q
  | 0, _, _, _, _, _, hw => hw.elim
  | d + 1, f, vs, h, Q, hf, hw => by
    obtain ⟨hloc, hw⟩ := hw
    obtain ⟨m1, m2, m3, m4, m5, m6, m7, m8, m9, m10⟩ := jm_mok_spec hf
    obtain ⟨hckD, hckP, hgo⟩ := hPP f hf
    refine Met.ofW (cc := jm_co f) (maxL := jm_ma f) (ret := jm_re f) m3 rfl ?_
    intro p e s m args below meth c s₁ B hml hv
    obtain ⟨rfl, hE, hP, hrg, hsz, hXt, hok⟩ := hv
    have hlocks := B.notSynchronized
    have hown : s.vm.findClass (jm_CN (jm_ow f)) = some m.cls := by rw [m7]; exact findClass_of_methodNamed B.named
    have hC : jm_Cx p (jm_rm (d + 1) f) s m meth c D aC ba ex X f d (h.1.length + jm_mc f, jm_tot h.1 + jm_ms f) h.1.length (jm_tot h.1) :=
      ⟨B.exec, B.bytes, hml, hown, hE, hXt, hsz, fun hk => (name_of_methodNamed B.named B.method).1.trans (m9 hk).1, Nat.le_refl _, Nat.le_refl _, Nat.le_refl _, Nat.le_refl _⟩
    obtain ⟨e0, g1, g2⟩ := jm_go_spec hgo
    have hr := B.returns
    rw [lg_entry_eq]
    have key := hw (jm_It p l e (jm_rm (d + 1) f) s m (vs.map (jm_rv ba ex)).toArray below meth c D aC ba ex (PP f) f (h.1.length + jm_mc f, jm_tot h.1 + jm_ms f) h.1.length (jm_tot h.1) (MQ below (jm_Qc D aC ba ex f h Q) (vs.map (jm_rv ba ex)).toArray s (jm_mc f) (jm_ms f) (fun q => ba ≤ q)))
      (jm_closed hC hckD hckP (fun f' vs' h' Qk hf' hc => jm_sound hPP l D aC ba ex X d f' vs' h' Qk hf' hc) ?_ ?_)
    · have k2 := key e0 g1 s.heap [] 0 0 _ ⟨hP, hrg, va_S.rf, Nat.zero_add _, Nat.zero_add _, Nat.le_add_right _ _, Nat.le_add_right _ _⟩ (jm_entry hloc hok) (fun v hv => absurd hv List.not_mem_nil)
      rw [g2] at k2
      exact k2
    · intro z h' H locs cells slots ls pc hdc hz hty hq hS
      have hc1 : cells = jm_mc f := by have := hq.1.1; have := hS.2.2.2.1; omega
      have hc2 : slots = jm_ms f := by have := hq.1.2; have := hS.2.2.2.2.1; omega
      subst hc1 hc2
      have hqq : ∀ t : State, t.heap = H → s.WarmedH t.vm → jm_Qc D aC ba ex f h Q (vs.map (jm_rv ba ex)).toArray s (.returned (some (.int (Int32.ofInt z)))) t := fun t ht _ =>
        ⟨⟨[.inl z], h', hq.2, hq.1, rfl, Nat.le_refl _, by rw [ht]; exact hS.1, hS.2.1, fun x hx => by rw [List.mem_singleton.mp hx]; exact hz⟩, hS.2.2.1.F ht⟩
      rcases hty with hty | ⟨hty, h01⟩
      · exact W.iret B.exec B.bytes (hr.trans hty) hqq hS.2.2.1.2.2 hdc
      · exact W.zret B.exec B.bytes (hr.trans hty) (by rcases h01 with rfl | rfl <;> rfl) hqq hS.2.2.1.2.2 hdc
    · intro h' H locs cells slots ls pc hdc hty hq hS
      have hc1 : cells = jm_mc f := by have := hq.1.1; have := hS.2.2.2.1; omega
      have hc2 : slots = jm_ms f := by have := hq.1.2; have := hS.2.2.2.2.1; omega
      subst hc1 hc2
      exact W.vret B.exec B.bytes (hr.trans hty) (fun t ht _ => ⟨⟨[], h', hq.2, hq.1, rfl, Nat.zero_le _, by rw [ht]; exact hS.1, hS.2.1, fun x hx => absurd hx List.not_mem_nil⟩, hS.2.2.1.F ht⟩) hS.2.2.1.2.2 hdc
end JMF
end
