section
-- ===== PART A: goes FIRST, ahead of the names: the tables' words, and 'selects' of the private methods out of them =====
/-- a private method of a class that the tables say can be made, by its rows of tables_1 -/
def lw_okq (q : MethodName × Nat) : Prop := (q.1.cls ≠ "java/lang/invoke/MethodHandle" ∧ q.1.cls ≠ "java/lang/invoke/VarHandle") ∧ Cond.instantiable q.1.cls q.2 ∈ tables_1 ∧ Cond.privateMethod q.1 ∈ tables_1 ∧ Cond.instanceMethod q.1 ∈ tables_1
theorem lw_p0 : lw_okq (⟨"MatNations", "found", "(I)I"⟩, 12) := ⟨⟨by decide +kernel, by decide +kernel⟩, List.mem_of_getElem? (i := 16) (by decide +kernel), List.mem_of_getElem? (i := 297) (by decide +kernel), List.mem_of_getElem? (i := 298) (by decide +kernel)⟩
theorem lw_p1 : lw_okq (⟨"MatNations", "unfound", "(I)I"⟩, 12) := ⟨⟨by decide +kernel, by decide +kernel⟩, List.mem_of_getElem? (i := 16) (by decide +kernel), List.mem_of_getElem? (i := 306) (by decide +kernel), List.mem_of_getElem? (i := 307) (by decide +kernel)⟩
theorem lw_p2 : lw_okq (⟨"MatNations$Reader", "readLaw", "(LMatNations$House;)Z"⟩, 4) := ⟨⟨by decide +kernel, by decide +kernel⟩, List.mem_of_getElem? (i := 41) (by decide +kernel), List.mem_of_getElem? (i := 378) (by decide +kernel), List.mem_of_getElem? (i := 379) (by decide +kernel)⟩
theorem lw_p3 : lw_okq (⟨"MatNations$Reader", "takeByte", "(I)Z"⟩, 4) := ⟨⟨by decide +kernel, by decide +kernel⟩, List.mem_of_getElem? (i := 41) (by decide +kernel), List.mem_of_getElem? (i := 382) (by decide +kernel), List.mem_of_getElem? (i := 383) (by decide +kernel)⟩
theorem lw_p4 : lw_okq (⟨"MatNations$Reader", "seen", "()I"⟩, 4) := ⟨⟨by decide +kernel, by decide +kernel⟩, List.mem_of_getElem? (i := 41) (by decide +kernel), List.mem_of_getElem? (i := 386) (by decide +kernel), List.mem_of_getElem? (i := 387) (by decide +kernel)⟩
theorem lw_p5 : lw_okq (⟨"MatNations$Reader", "refuse", "(I)Z"⟩, 4) := ⟨⟨by decide +kernel, by decide +kernel⟩, List.mem_of_getElem? (i := 41) (by decide +kernel), List.mem_of_getElem? (i := 390) (by decide +kernel), List.mem_of_getElem? (i := 391) (by decide +kernel)⟩
theorem lw_p6 : lw_okq (⟨"MatNations$Reader", "takeNumber", "(II)I"⟩, 4) := ⟨⟨by decide +kernel, by decide +kernel⟩, List.mem_of_getElem? (i := 41) (by decide +kernel), List.mem_of_getElem? (i := 394) (by decide +kernel), List.mem_of_getElem? (i := 395) (by decide +kernel)⟩
theorem lw_p7 : lw_okq (⟨"MatNations$Reader", "readMats", "(LMatNations$House;)Z"⟩, 4) := ⟨⟨by decide +kernel, by decide +kernel⟩, List.mem_of_getElem? (i := 41) (by decide +kernel), List.mem_of_getElem? (i := 401) (by decide +kernel), List.mem_of_getElem? (i := 402) (by decide +kernel)⟩
theorem lw_p8 : lw_okq (⟨"MatNations$Reader", "readComers", "(LMatNations$House;)Z"⟩, 4) := ⟨⟨by decide +kernel, by decide +kernel⟩, List.mem_of_getElem? (i := 41) (by decide +kernel), List.mem_of_getElem? (i := 405) (by decide +kernel), List.mem_of_getElem? (i := 406) (by decide +kernel)⟩
theorem lw_p9 : lw_okq (⟨"MatNations$Reader", "readTraits", "(LMatNations$Comer;)Z"⟩, 4) := ⟨⟨by decide +kernel, by decide +kernel⟩, List.mem_of_getElem? (i := 41) (by decide +kernel), List.mem_of_getElem? (i := 412) (by decide +kernel), List.mem_of_getElem? (i := 413) (by decide +kernel)⟩
theorem lw_p10 : lw_okq (⟨"MatNations", "noComer", "(I)Z"⟩, 12) := ⟨⟨by decide +kernel, by decide +kernel⟩, List.mem_of_getElem? (i := 16) (by decide +kernel), List.mem_of_getElem? (i := 446) (by decide +kernel), List.mem_of_getElem? (i := 447) (by decide +kernel)⟩
theorem lw_p11 : lw_okq (⟨"MatNations", "noMat", "(I)Z"⟩, 12) := ⟨⟨by decide +kernel, by decide +kernel⟩, List.mem_of_getElem? (i := 16) (by decide +kernel), List.mem_of_getElem? (i := 487) (by decide +kernel), List.mem_of_getElem? (i := 488) (by decide +kernel)⟩
theorem lw_p12 : lw_okq (⟨"MatNations", "noHotel", "()Z"⟩, 12) := ⟨⟨by decide +kernel, by decide +kernel⟩, List.mem_of_getElem? (i := 16) (by decide +kernel), List.mem_of_getElem? (i := 505) (by decide +kernel), List.mem_of_getElem? (i := 506) (by decide +kernel)⟩
theorem lw_p13 : lw_okq (⟨"MatNations$Foretold", "tryOrders", "(LMatNations$House;III)V"⟩, 6) := ⟨⟨by decide +kernel, by decide +kernel⟩, List.mem_of_getElem? (i := 210) (by decide +kernel), List.mem_of_getElem? (i := 584) (by decide +kernel), List.mem_of_getElem? (i := 585) (by decide +kernel)⟩
theorem lw_p14 : lw_okq (⟨"MatNations$Foretold", "keepTried", "(II)V"⟩, 6) := ⟨⟨by decide +kernel, by decide +kernel⟩, List.mem_of_getElem? (i := 210) (by decide +kernel), List.mem_of_getElem? (i := 588) (by decide +kernel), List.mem_of_getElem? (i := 589) (by decide +kernel)⟩
theorem lw_p15 : lw_okq (⟨"MatNations$Foretold", "tryLayings", "(LMatNations$House;II)V"⟩, 6) := ⟨⟨by decide +kernel, by decide +kernel⟩, List.mem_of_getElem? (i := 210) (by decide +kernel), List.mem_of_getElem? (i := 606) (by decide +kernel), List.mem_of_getElem? (i := 607) (by decide +kernel)⟩
def lw_privs_1 : List (MethodName × Nat) := [(⟨"MatNations", "found", "(I)I"⟩, 12), (⟨"MatNations", "unfound", "(I)I"⟩, 12), (⟨"MatNations$Reader", "readLaw", "(LMatNations$House;)Z"⟩, 4), (⟨"MatNations$Reader", "takeByte", "(I)Z"⟩, 4), (⟨"MatNations$Reader", "seen", "()I"⟩, 4), (⟨"MatNations$Reader", "refuse", "(I)Z"⟩, 4), (⟨"MatNations$Reader", "takeNumber", "(II)I"⟩, 4), (⟨"MatNations$Reader", "readMats", "(LMatNations$House;)Z"⟩, 4), (⟨"MatNations$Reader", "readComers", "(LMatNations$House;)Z"⟩, 4), (⟨"MatNations$Reader", "readTraits", "(LMatNations$Comer;)Z"⟩, 4), (⟨"MatNations", "noComer", "(I)Z"⟩, 12), (⟨"MatNations", "noMat", "(I)Z"⟩, 12), (⟨"MatNations", "noHotel", "()Z"⟩, 12), (⟨"MatNations$Foretold", "tryOrders", "(LMatNations$House;III)V"⟩, 6), (⟨"MatNations$Foretold", "keepTried", "(II)V"⟩, 6), (⟨"MatNations$Foretold", "tryLayings", "(LMatNations$House;II)V"⟩, 6)]
theorem lw_r1 : ∀ q ∈ lw_privs_1, lw_okq q := List.forall_mem_cons.mpr ⟨lw_p0, List.forall_mem_cons.mpr ⟨lw_p1, List.forall_mem_cons.mpr ⟨lw_p2, List.forall_mem_cons.mpr ⟨lw_p3, List.forall_mem_cons.mpr ⟨lw_p4, List.forall_mem_cons.mpr ⟨lw_p5, List.forall_mem_cons.mpr ⟨lw_p6, List.forall_mem_cons.mpr ⟨lw_p7, List.forall_mem_cons.mpr ⟨lw_p8, List.forall_mem_cons.mpr ⟨lw_p9, List.forall_mem_cons.mpr ⟨lw_p10, List.forall_mem_cons.mpr ⟨lw_p11, List.forall_mem_cons.mpr ⟨lw_p12, List.forall_mem_cons.mpr ⟨lw_p13, List.forall_mem_cons.mpr ⟨lw_p14, List.forall_mem_cons.mpr ⟨lw_p15, fun _ h => absurd h List.not_mem_nil⟩⟩⟩⟩⟩⟩⟩⟩⟩⟩⟩⟩⟩⟩⟩⟩
theorem lw_p16 : lw_okq (⟨"MatNations$Foretold", "carriedIfBeaten", "(LMatNations$House;II)I"⟩, 6) := ⟨⟨by decide +kernel, by decide +kernel⟩, List.mem_of_getElem? (i := 210) (by decide +kernel), List.mem_of_getElem? (i := 640) (by decide +kernel), List.mem_of_getElem? (i := 641) (by decide +kernel)⟩
theorem lw_p17 : lw_okq (⟨"MatNations$Foretold", "bindsTo", "(LMatNations$House;III)Z"⟩, 6) := ⟨⟨by decide +kernel, by decide +kernel⟩, List.mem_of_getElem? (i := 210) (by decide +kernel), List.mem_of_getElem? (i := 668) (by decide +kernel), List.mem_of_getElem? (i := 669) (by decide +kernel)⟩
theorem lw_p18 : lw_okq (⟨"MatNations", "matRowFinding", "(II)I"⟩, 12) := ⟨⟨by decide +kernel, by decide +kernel⟩, List.mem_of_getElem? (i := 16) (by decide +kernel), List.mem_of_getElem? (i := 676) (by decide +kernel), List.mem_of_getElem? (i := 677) (by decide +kernel)⟩
theorem lw_p19 : lw_okq (⟨"MatNations$Foretold", "isSoBehind", "(LMatNations$House;LMatNations$Comer;LMatNations$Rows;II)Z"⟩, 6) := ⟨⟨by decide +kernel, by decide +kernel⟩, List.mem_of_getElem? (i := 210) (by decide +kernel), List.mem_of_getElem? (i := 684) (by decide +kernel), List.mem_of_getElem? (i := 685) (by decide +kernel)⟩
theorem lw_p20 : lw_okq (⟨"MatNations$Foretold", "giveTrait", "(II)V"⟩, 6) := ⟨⟨by decide +kernel, by decide +kernel⟩, List.mem_of_getElem? (i := 210) (by decide +kernel), List.mem_of_getElem? (i := 709) (by decide +kernel), List.mem_of_getElem? (i := 710) (by decide +kernel)⟩
theorem lw_p21 : lw_okq (⟨"MatNations$Asks", "give", "(ILMatNations$Comer;II)I"⟩, 2) := ⟨⟨by decide +kernel, by decide +kernel⟩, List.mem_of_getElem? (i := 239) (by decide +kernel), List.mem_of_getElem? (i := 783) (by decide +kernel), List.mem_of_getElem? (i := 784) (by decide +kernel)⟩
theorem lw_p22 : lw_okq (⟨"MatNations$Asks", "leaveTrace", "(I)V"⟩, 2) := ⟨⟨by decide +kernel, by decide +kernel⟩, List.mem_of_getElem? (i := 239) (by decide +kernel), List.mem_of_getElem? (i := 787) (by decide +kernel), List.mem_of_getElem? (i := 788) (by decide +kernel)⟩
theorem lw_p23 : lw_okq (⟨"MatNationsModel", "find", "(I)I"⟩, 18) := ⟨⟨by decide +kernel, by decide +kernel⟩, List.mem_of_getElem? (i := 830) (by decide +kernel), List.mem_of_getElem? (i := 904) (by decide +kernel), List.mem_of_getElem? (i := 905) (by decide +kernel)⟩
theorem lw_p24 : lw_okq (⟨"MatNationsModel", "well", "(I)I"⟩, 18) := ⟨⟨by decide +kernel, by decide +kernel⟩, List.mem_of_getElem? (i := 830) (by decide +kernel), List.mem_of_getElem? (i := 909) (by decide +kernel), List.mem_of_getElem? (i := 910) (by decide +kernel)⟩
theorem lw_p25 : lw_okq (⟨"MatNationsModel", "isSpan", "(III)Z"⟩, 18) := ⟨⟨by decide +kernel, by decide +kernel⟩, List.mem_of_getElem? (i := 830) (by decide +kernel), List.mem_of_getElem? (i := 924) (by decide +kernel), List.mem_of_getElem? (i := 925) (by decide +kernel)⟩
theorem lw_p26 : lw_okq (⟨"MatNationsModel", "reads", "()Z"⟩, 18) := ⟨⟨by decide +kernel, by decide +kernel⟩, List.mem_of_getElem? (i := 830) (by decide +kernel), List.mem_of_getElem? (i := 942) (by decide +kernel), List.mem_of_getElem? (i := 943) (by decide +kernel)⟩
theorem lw_p27 : lw_okq (⟨"MatNationsModel", "readsLaw", "()Z"⟩, 18) := ⟨⟨by decide +kernel, by decide +kernel⟩, List.mem_of_getElem? (i := 830) (by decide +kernel), List.mem_of_getElem? (i := 946) (by decide +kernel), List.mem_of_getElem? (i := 947) (by decide +kernel)⟩
theorem lw_p28 : lw_okq (⟨"MatNationsModel", "sign", "(I)Z"⟩, 18) := ⟨⟨by decide +kernel, by decide +kernel⟩, List.mem_of_getElem? (i := 830) (by decide +kernel), List.mem_of_getElem? (i := 950) (by decide +kernel), List.mem_of_getElem? (i := 951) (by decide +kernel)⟩
theorem lw_p29 : lw_okq (⟨"MatNationsModel", "isLetter", "(I)Z"⟩, 18) := ⟨⟨by decide +kernel, by decide +kernel⟩, List.mem_of_getElem? (i := 830) (by decide +kernel), List.mem_of_getElem? (i := 954) (by decide +kernel), List.mem_of_getElem? (i := 955) (by decide +kernel)⟩
theorem lw_p30 : lw_okq (⟨"MatNationsModel", "refuse", "(I)Z"⟩, 18) := ⟨⟨by decide +kernel, by decide +kernel⟩, List.mem_of_getElem? (i := 830) (by decide +kernel), List.mem_of_getElem? (i := 958) (by decide +kernel), List.mem_of_getElem? (i := 959) (by decide +kernel)⟩
theorem lw_p31 : lw_okq (⟨"MatNationsModel", "readsNumber", "(II)Z"⟩, 18) := ⟨⟨by decide +kernel, by decide +kernel⟩, List.mem_of_getElem? (i := 830) (by decide +kernel), List.mem_of_getElem? (i := 962) (by decide +kernel), List.mem_of_getElem? (i := 963) (by decide +kernel)⟩
def lw_privs_2 : List (MethodName × Nat) := [(⟨"MatNations$Foretold", "carriedIfBeaten", "(LMatNations$House;II)I"⟩, 6), (⟨"MatNations$Foretold", "bindsTo", "(LMatNations$House;III)Z"⟩, 6), (⟨"MatNations", "matRowFinding", "(II)I"⟩, 12), (⟨"MatNations$Foretold", "isSoBehind", "(LMatNations$House;LMatNations$Comer;LMatNations$Rows;II)Z"⟩, 6), (⟨"MatNations$Foretold", "giveTrait", "(II)V"⟩, 6), (⟨"MatNations$Asks", "give", "(ILMatNations$Comer;II)I"⟩, 2), (⟨"MatNations$Asks", "leaveTrace", "(I)V"⟩, 2), (⟨"MatNationsModel", "find", "(I)I"⟩, 18), (⟨"MatNationsModel", "well", "(I)I"⟩, 18), (⟨"MatNationsModel", "isSpan", "(III)Z"⟩, 18), (⟨"MatNationsModel", "reads", "()Z"⟩, 18), (⟨"MatNationsModel", "readsLaw", "()Z"⟩, 18), (⟨"MatNationsModel", "sign", "(I)Z"⟩, 18), (⟨"MatNationsModel", "isLetter", "(I)Z"⟩, 18), (⟨"MatNationsModel", "refuse", "(I)Z"⟩, 18), (⟨"MatNationsModel", "readsNumber", "(II)Z"⟩, 18)]
theorem lw_r2 : ∀ q ∈ lw_privs_2, lw_okq q := List.forall_mem_cons.mpr ⟨lw_p16, List.forall_mem_cons.mpr ⟨lw_p17, List.forall_mem_cons.mpr ⟨lw_p18, List.forall_mem_cons.mpr ⟨lw_p19, List.forall_mem_cons.mpr ⟨lw_p20, List.forall_mem_cons.mpr ⟨lw_p21, List.forall_mem_cons.mpr ⟨lw_p22, List.forall_mem_cons.mpr ⟨lw_p23, List.forall_mem_cons.mpr ⟨lw_p24, List.forall_mem_cons.mpr ⟨lw_p25, List.forall_mem_cons.mpr ⟨lw_p26, List.forall_mem_cons.mpr ⟨lw_p27, List.forall_mem_cons.mpr ⟨lw_p28, List.forall_mem_cons.mpr ⟨lw_p29, List.forall_mem_cons.mpr ⟨lw_p30, List.forall_mem_cons.mpr ⟨lw_p31, fun _ h => absurd h List.not_mem_nil⟩⟩⟩⟩⟩⟩⟩⟩⟩⟩⟩⟩⟩⟩⟩⟩
theorem lw_p32 : lw_okq (⟨"MatNationsModel", "isFigure", "(I)Z"⟩, 18) := ⟨⟨by decide +kernel, by decide +kernel⟩, List.mem_of_getElem? (i := 830) (by decide +kernel), List.mem_of_getElem? (i := 966) (by decide +kernel), List.mem_of_getElem? (i := 967) (by decide +kernel)⟩
theorem lw_p33 : lw_okq (⟨"MatNationsModel", "readsMat", "()Z"⟩, 18) := ⟨⟨by decide +kernel, by decide +kernel⟩, List.mem_of_getElem? (i := 830) (by decide +kernel), List.mem_of_getElem? (i := 972) (by decide +kernel), List.mem_of_getElem? (i := 973) (by decide +kernel)⟩
theorem lw_p34 : lw_okq (⟨"MatNationsModel", "isSort", "()Z"⟩, 18) := ⟨⟨by decide +kernel, by decide +kernel⟩, List.mem_of_getElem? (i := 830) (by decide +kernel), List.mem_of_getElem? (i := 976) (by decide +kernel), List.mem_of_getElem? (i := 977) (by decide +kernel)⟩
theorem lw_p35 : lw_okq (⟨"MatNationsModel", "readsComer", "()Z"⟩, 18) := ⟨⟨by decide +kernel, by decide +kernel⟩, List.mem_of_getElem? (i := 830) (by decide +kernel), List.mem_of_getElem? (i := 983) (by decide +kernel), List.mem_of_getElem? (i := 984) (by decide +kernel)⟩
theorem lw_p36 : lw_okq (⟨"MatNationsModel", "copyTown", "(II)V"⟩, 18) := ⟨⟨by decide +kernel, by decide +kernel⟩, List.mem_of_getElem? (i := 830) (by decide +kernel), List.mem_of_getElem? (i := 988) (by decide +kernel), List.mem_of_getElem? (i := 989) (by decide +kernel)⟩
theorem lw_p37 : lw_okq (⟨"MatNationsModel", "isComer", "(I)Z"⟩, 18) := ⟨⟨by decide +kernel, by decide +kernel⟩, List.mem_of_getElem? (i := 830) (by decide +kernel), List.mem_of_getElem? (i := 1005) (by decide +kernel), List.mem_of_getElem? (i := 1006) (by decide +kernel)⟩
theorem lw_p38 : lw_okq (⟨"MatNationsModel", "keepPast", "()V"⟩, 18) := ⟨⟨by decide +kernel, by decide +kernel⟩, List.mem_of_getElem? (i := 830) (by decide +kernel), List.mem_of_getElem? (i := 1009) (by decide +kernel), List.mem_of_getElem? (i := 1010) (by decide +kernel)⟩
theorem lw_p39 : lw_okq (⟨"MatNationsModel", "comesAt", "(II)I"⟩, 18) := ⟨⟨by decide +kernel, by decide +kernel⟩, List.mem_of_getElem? (i := 830) (by decide +kernel), List.mem_of_getElem? (i := 1013) (by decide +kernel), List.mem_of_getElem? (i := 1014) (by decide +kernel)⟩
theorem lw_p40 : lw_okq (⟨"MatNationsModel", "leavesOn", "(IIII)I"⟩, 18) := ⟨⟨by decide +kernel, by decide +kernel⟩, List.mem_of_getElem? (i := 830) (by decide +kernel), List.mem_of_getElem? (i := 1017) (by decide +kernel), List.mem_of_getElem? (i := 1018) (by decide +kernel)⟩
theorem lw_p41 : lw_okq (⟨"MatNationsModel", "liesOn", "(II)I"⟩, 18) := ⟨⟨by decide +kernel, by decide +kernel⟩, List.mem_of_getElem? (i := 830) (by decide +kernel), List.mem_of_getElem? (i := 1021) (by decide +kernel), List.mem_of_getElem? (i := 1022) (by decide +kernel)⟩
theorem lw_p42 : lw_okq (⟨"MatNationsModel", "isMat", "(I)Z"⟩, 18) := ⟨⟨by decide +kernel, by decide +kernel⟩, List.mem_of_getElem? (i := 830) (by decide +kernel), List.mem_of_getElem? (i := 1029) (by decide +kernel), List.mem_of_getElem? (i := 1030) (by decide +kernel)⟩
theorem lw_p43 : lw_okq (⟨"MatNationsModel", "beatsAt", "(II)I"⟩, 18) := ⟨⟨by decide +kernel, by decide +kernel⟩, List.mem_of_getElem? (i := 830) (by decide +kernel), List.mem_of_getElem? (i := 1033) (by decide +kernel), List.mem_of_getElem? (i := 1034) (by decide +kernel)⟩
theorem lw_p44 : lw_okq (⟨"MatNationsModel", "swapPlaces", "(II)V"⟩, 18) := ⟨⟨by decide +kernel, by decide +kernel⟩, List.mem_of_getElem? (i := 830) (by decide +kernel), List.mem_of_getElem? (i := 1041) (by decide +kernel), List.mem_of_getElem? (i := 1042) (by decide +kernel)⟩
theorem lw_p45 : lw_okq (⟨"MatNationsModel", "masterOf", "(I)I"⟩, 18) := ⟨⟨by decide +kernel, by decide +kernel⟩, List.mem_of_getElem? (i := 830) (by decide +kernel), List.mem_of_getElem? (i := 1058) (by decide +kernel), List.mem_of_getElem? (i := 1059) (by decide +kernel)⟩
theorem lw_p46 : lw_okq (⟨"MatNationsModel", "areAtOne", "(III)Z"⟩, 18) := ⟨⟨by decide +kernel, by decide +kernel⟩, List.mem_of_getElem? (i := 830) (by decide +kernel), List.mem_of_getElem? (i := 1072) (by decide +kernel), List.mem_of_getElem? (i := 1073) (by decide +kernel)⟩
theorem lw_p47 : lw_okq (⟨"MatNationsModel", "carriesIf", "(I)I"⟩, 18) := ⟨⟨by decide +kernel, by decide +kernel⟩, List.mem_of_getElem? (i := 830) (by decide +kernel), List.mem_of_getElem? (i := 1080) (by decide +kernel), List.mem_of_getElem? (i := 1081) (by decide +kernel)⟩
def lw_privs_3 : List (MethodName × Nat) := [(⟨"MatNationsModel", "isFigure", "(I)Z"⟩, 18), (⟨"MatNationsModel", "readsMat", "()Z"⟩, 18), (⟨"MatNationsModel", "isSort", "()Z"⟩, 18), (⟨"MatNationsModel", "readsComer", "()Z"⟩, 18), (⟨"MatNationsModel", "copyTown", "(II)V"⟩, 18), (⟨"MatNationsModel", "isComer", "(I)Z"⟩, 18), (⟨"MatNationsModel", "keepPast", "()V"⟩, 18), (⟨"MatNationsModel", "comesAt", "(II)I"⟩, 18), (⟨"MatNationsModel", "leavesOn", "(IIII)I"⟩, 18), (⟨"MatNationsModel", "liesOn", "(II)I"⟩, 18), (⟨"MatNationsModel", "isMat", "(I)Z"⟩, 18), (⟨"MatNationsModel", "beatsAt", "(II)I"⟩, 18), (⟨"MatNationsModel", "swapPlaces", "(II)V"⟩, 18), (⟨"MatNationsModel", "masterOf", "(I)I"⟩, 18), (⟨"MatNationsModel", "areAtOne", "(III)Z"⟩, 18), (⟨"MatNationsModel", "carriesIf", "(I)I"⟩, 18)]
theorem lw_r3 : ∀ q ∈ lw_privs_3, lw_okq q := List.forall_mem_cons.mpr ⟨lw_p32, List.forall_mem_cons.mpr ⟨lw_p33, List.forall_mem_cons.mpr ⟨lw_p34, List.forall_mem_cons.mpr ⟨lw_p35, List.forall_mem_cons.mpr ⟨lw_p36, List.forall_mem_cons.mpr ⟨lw_p37, List.forall_mem_cons.mpr ⟨lw_p38, List.forall_mem_cons.mpr ⟨lw_p39, List.forall_mem_cons.mpr ⟨lw_p40, List.forall_mem_cons.mpr ⟨lw_p41, List.forall_mem_cons.mpr ⟨lw_p42, List.forall_mem_cons.mpr ⟨lw_p43, List.forall_mem_cons.mpr ⟨lw_p44, List.forall_mem_cons.mpr ⟨lw_p45, List.forall_mem_cons.mpr ⟨lw_p46, List.forall_mem_cons.mpr ⟨lw_p47, fun _ h => absurd h List.not_mem_nil⟩⟩⟩⟩⟩⟩⟩⟩⟩⟩⟩⟩⟩⟩⟩⟩
theorem lw_p48 : lw_okq (⟨"MatNationsModel", "layTried", "()V"⟩, 18) := ⟨⟨by decide +kernel, by decide +kernel⟩, List.mem_of_getElem? (i := 830) (by decide +kernel), List.mem_of_getElem? (i := 1084) (by decide +kernel), List.mem_of_getElem? (i := 1085) (by decide +kernel)⟩
theorem lw_p49 : lw_okq (⟨"MatNationsModel", "layLine", "(I)V"⟩, 18) := ⟨⟨by decide +kernel, by decide +kernel⟩, List.mem_of_getElem? (i := 830) (by decide +kernel), List.mem_of_getElem? (i := 1101) (by decide +kernel), List.mem_of_getElem? (i := 1102) (by decide +kernel)⟩
theorem lw_p50 : lw_okq (⟨"MatNationsModel", "takeLine", "()V"⟩, 18) := ⟨⟨by decide +kernel, by decide +kernel⟩, List.mem_of_getElem? (i := 830) (by decide +kernel), List.mem_of_getElem? (i := 1105) (by decide +kernel), List.mem_of_getElem? (i := 1106) (by decide +kernel)⟩
theorem lw_p51 : lw_okq (⟨"MatNationsModel", "nextLine", "(I)Z"⟩, 18) := ⟨⟨by decide +kernel, by decide +kernel⟩, List.mem_of_getElem? (i := 830) (by decide +kernel), List.mem_of_getElem? (i := 1109) (by decide +kernel), List.mem_of_getElem? (i := 1110) (by decide +kernel)⟩
theorem lw_p52 : lw_okq (⟨"MatNationsModel", "swapLine", "(II)V"⟩, 18) := ⟨⟨by decide +kernel, by decide +kernel⟩, List.mem_of_getElem? (i := 830) (by decide +kernel), List.mem_of_getElem? (i := 1113) (by decide +kernel), List.mem_of_getElem? (i := 1114) (by decide +kernel)⟩
theorem lw_p53 : lw_okq (⟨"MatNationsModel", "layMats", "()V"⟩, 18) := ⟨⟨by decide +kernel, by decide +kernel⟩, List.mem_of_getElem? (i := 830) (by decide +kernel), List.mem_of_getElem? (i := 1122) (by decide +kernel), List.mem_of_getElem? (i := 1123) (by decide +kernel)⟩
theorem lw_p54 : lw_okq (⟨"MatNationsModel", "comeAll", "(I)I"⟩, 18) := ⟨⟨by decide +kernel, by decide +kernel⟩, List.mem_of_getElem? (i := 830) (by decide +kernel), List.mem_of_getElem? (i := 1126) (by decide +kernel), List.mem_of_getElem? (i := 1127) (by decide +kernel)⟩
theorem lw_p55 : lw_okq (⟨"MatNationsModel", "noItems", "(II)I"⟩, 18) := ⟨⟨by decide +kernel, by decide +kernel⟩, List.mem_of_getElem? (i := 830) (by decide +kernel), List.mem_of_getElem? (i := 1153) (by decide +kernel), List.mem_of_getElem? (i := 1154) (by decide +kernel)⟩
theorem lw_p56 : lw_okq (⟨"MatNationsModel", "isSo", "(III)Z"⟩, 18) := ⟨⟨by decide +kernel, by decide +kernel⟩, List.mem_of_getElem? (i := 830) (by decide +kernel), List.mem_of_getElem? (i := 1157) (by decide +kernel), List.mem_of_getElem? (i := 1158) (by decide +kernel)⟩
theorem lw_p57 : lw_okq (⟨"MatNationsModel", "onAll", "(I)I"⟩, 18) := ⟨⟨by decide +kernel, by decide +kernel⟩, List.mem_of_getElem? (i := 830) (by decide +kernel), List.mem_of_getElem? (i := 1178) (by decide +kernel), List.mem_of_getElem? (i := 1179) (by decide +kernel)⟩
theorem lw_p58 : lw_okq (⟨"MatNationsModel", "isOf", "(II)Z"⟩, 18) := ⟨⟨by decide +kernel, by decide +kernel⟩, List.mem_of_getElem? (i := 830) (by decide +kernel), List.mem_of_getElem? (i := 1198) (by decide +kernel), List.mem_of_getElem? (i := 1199) (by decide +kernel)⟩
theorem lw_p59 : lw_okq (⟨"MatNationsModel", "sizeOf", "(I)I"⟩, 18) := ⟨⟨by decide +kernel, by decide +kernel⟩, List.mem_of_getElem? (i := 830) (by decide +kernel), List.mem_of_getElem? (i := 1206) (by decide +kernel), List.mem_of_getElem? (i := 1207) (by decide +kernel)⟩
theorem lw_p60 : lw_okq (⟨"MatNationsModel", "begin", "(I)V"⟩, 18) := ⟨⟨by decide +kernel, by decide +kernel⟩, List.mem_of_getElem? (i := 830) (by decide +kernel), List.mem_of_getElem? (i := 1210) (by decide +kernel), List.mem_of_getElem? (i := 1211) (by decide +kernel)⟩
theorem lw_p61 : lw_okq (⟨"MatNationsModel", "wiperSize", "(I)I"⟩, 18) := ⟨⟨by decide +kernel, by decide +kernel⟩, List.mem_of_getElem? (i := 830) (by decide +kernel), List.mem_of_getElem? (i := 1214) (by decide +kernel), List.mem_of_getElem? (i := 1215) (by decide +kernel)⟩
theorem lw_p62 : lw_okq (⟨"MatNationsModel", "lentSize", "(I)I"⟩, 18) := ⟨⟨by decide +kernel, by decide +kernel⟩, List.mem_of_getElem? (i := 830) (by decide +kernel), List.mem_of_getElem? (i := 1218) (by decide +kernel), List.mem_of_getElem? (i := 1219) (by decide +kernel)⟩
theorem lw_p63 : lw_okq (⟨"MatNationsModel", "mark", "(I)I"⟩, 18) := ⟨⟨by decide +kernel, by decide +kernel⟩, List.mem_of_getElem? (i := 830) (by decide +kernel), List.mem_of_getElem? (i := 1222) (by decide +kernel), List.mem_of_getElem? (i := 1223) (by decide +kernel)⟩
def lw_privs_4 : List (MethodName × Nat) := [(⟨"MatNationsModel", "layTried", "()V"⟩, 18), (⟨"MatNationsModel", "layLine", "(I)V"⟩, 18), (⟨"MatNationsModel", "takeLine", "()V"⟩, 18), (⟨"MatNationsModel", "nextLine", "(I)Z"⟩, 18), (⟨"MatNationsModel", "swapLine", "(II)V"⟩, 18), (⟨"MatNationsModel", "layMats", "()V"⟩, 18), (⟨"MatNationsModel", "comeAll", "(I)I"⟩, 18), (⟨"MatNationsModel", "noItems", "(II)I"⟩, 18), (⟨"MatNationsModel", "isSo", "(III)Z"⟩, 18), (⟨"MatNationsModel", "onAll", "(I)I"⟩, 18), (⟨"MatNationsModel", "isOf", "(II)Z"⟩, 18), (⟨"MatNationsModel", "sizeOf", "(I)I"⟩, 18), (⟨"MatNationsModel", "begin", "(I)V"⟩, 18), (⟨"MatNationsModel", "wiperSize", "(I)I"⟩, 18), (⟨"MatNationsModel", "lentSize", "(I)I"⟩, 18), (⟨"MatNationsModel", "mark", "(I)I"⟩, 18)]
theorem lw_r4 : ∀ q ∈ lw_privs_4, lw_okq q := List.forall_mem_cons.mpr ⟨lw_p48, List.forall_mem_cons.mpr ⟨lw_p49, List.forall_mem_cons.mpr ⟨lw_p50, List.forall_mem_cons.mpr ⟨lw_p51, List.forall_mem_cons.mpr ⟨lw_p52, List.forall_mem_cons.mpr ⟨lw_p53, List.forall_mem_cons.mpr ⟨lw_p54, List.forall_mem_cons.mpr ⟨lw_p55, List.forall_mem_cons.mpr ⟨lw_p56, List.forall_mem_cons.mpr ⟨lw_p57, List.forall_mem_cons.mpr ⟨lw_p58, List.forall_mem_cons.mpr ⟨lw_p59, List.forall_mem_cons.mpr ⟨lw_p60, List.forall_mem_cons.mpr ⟨lw_p61, List.forall_mem_cons.mpr ⟨lw_p62, List.forall_mem_cons.mpr ⟨lw_p63, fun _ h => absurd h List.not_mem_nil⟩⟩⟩⟩⟩⟩⟩⟩⟩⟩⟩⟩⟩⟩⟩⟩
theorem lw_p64 : lw_okq (⟨"MatNationsModel", "wiperMark", "(I)I"⟩, 18) := ⟨⟨by decide +kernel, by decide +kernel⟩, List.mem_of_getElem? (i := 830) (by decide +kernel), List.mem_of_getElem? (i := 1226) (by decide +kernel), List.mem_of_getElem? (i := 1227) (by decide +kernel)⟩
theorem lw_p65 : lw_okq (⟨"MatNationsModel", "lentMark", "(I)I"⟩, 18) := ⟨⟨by decide +kernel, by decide +kernel⟩, List.mem_of_getElem? (i := 830) (by decide +kernel), List.mem_of_getElem? (i := 1230) (by decide +kernel), List.mem_of_getElem? (i := 1231) (by decide +kernel)⟩
theorem lw_p66 : lw_okq (⟨"MatNationsModel", "stamperSize", "(I)I"⟩, 18) := ⟨⟨by decide +kernel, by decide +kernel⟩, List.mem_of_getElem? (i := 830) (by decide +kernel), List.mem_of_getElem? (i := 1234) (by decide +kernel), List.mem_of_getElem? (i := 1235) (by decide +kernel)⟩
theorem lw_p67 : lw_okq (⟨"MatNationsModel", "stamperMark", "(I)I"⟩, 18) := ⟨⟨by decide +kernel, by decide +kernel⟩, List.mem_of_getElem? (i := 830) (by decide +kernel), List.mem_of_getElem? (i := 1238) (by decide +kernel), List.mem_of_getElem? (i := 1239) (by decide +kernel)⟩
theorem lw_p68 : lw_okq (⟨"MatNationsModel", "comings", "()I"⟩, 18) := ⟨⟨by decide +kernel, by decide +kernel⟩, List.mem_of_getElem? (i := 830) (by decide +kernel), List.mem_of_getElem? (i := 1250) (by decide +kernel), List.mem_of_getElem? (i := 1251) (by decide +kernel)⟩
def lw_privs_5 : List (MethodName × Nat) := [(⟨"MatNationsModel", "wiperMark", "(I)I"⟩, 18), (⟨"MatNationsModel", "lentMark", "(I)I"⟩, 18), (⟨"MatNationsModel", "stamperSize", "(I)I"⟩, 18), (⟨"MatNationsModel", "stamperMark", "(I)I"⟩, 18), (⟨"MatNationsModel", "comings", "()I"⟩, 18)]
theorem lw_r5 : ∀ q ∈ lw_privs_5, lw_okq q := List.forall_mem_cons.mpr ⟨lw_p64, List.forall_mem_cons.mpr ⟨lw_p65, List.forall_mem_cons.mpr ⟨lw_p66, List.forall_mem_cons.mpr ⟨lw_p67, List.forall_mem_cons.mpr ⟨lw_p68, fun _ h => absurd h List.not_mem_nil⟩⟩⟩⟩⟩
def lw_privs : List (MethodName × Nat) := lw_privs_1 ++ (lw_privs_2 ++ (lw_privs_3 ++ (lw_privs_4 ++ (lw_privs_5))))
def lw_tbl : List Cond := k2_sels lw_privs ++ tables_1
theorem lw_privs_ok : ∀ q ∈ lw_privs, lw_okq q := by
  show ∀ q ∈ lw_privs_1 ++ (lw_privs_2 ++ (lw_privs_3 ++ (lw_privs_4 ++ (lw_privs_5)))), lw_okq q
  exact List.forall_mem_append.mpr ⟨lw_r1, List.forall_mem_append.mpr ⟨lw_r2, List.forall_mem_append.mpr ⟨lw_r3, List.forall_mem_append.mpr ⟨lw_r4, lw_r5⟩⟩⟩⟩
def RX0 : String := "MatNations$Asks"
def TX0 : u_T := fun k => match k with
  | 0 => ("MatNations$Asks", "begun", "[I", true)
  | _ => ("MatNations$Asks", "size", "I", false)
def tyX0 : Nat → FieldType := fun k => match k with
  | 0 => .array .int
  | _ => .int
abbrev wsX00 : List Cond := u_ws RX0 TX0 2
theorem nmX0 : ∀ a, a < 2 → ∀ b, b < 2 → a ≠ b → (TX0 a).2.1 ≠ (TX0 b).2.1 := by decide +kernel
theorem tyX0_ok : ∀ k, k < 2 → parseFieldDescriptor (TX0 k).2.2.1 = some (tyX0 k) := by decide +kernel
abbrev cX0_init : ByteArray := prog_2_method_1_code
def yX0_init : MethodName := ⟨RX0, "<init>", "()V"⟩
abbrev cX0_answer : ByteArray := prog_2_method_2_code
def yX0_answer : MethodName := ⟨RX0, "answer", "(LMatNations$Comer;II)I"⟩
abbrev cX0_traced : ByteArray := prog_2_method_3_code
def yX0_traced : MethodName := ⟨RX0, "traced", "(I)I"⟩
abbrev cX0_bodyOf : ByteArray := prog_2_method_4_code
def yX0_bodyOf : MethodName := ⟨RX0, "bodyOf", "(LMatNations$Comer;I)I"⟩
abbrev cX0_leaveTrace : ByteArray := prog_2_method_5_code
def yX0_leaveTrace : MethodName := ⟨RX0, "leaveTrace", "(I)V"⟩
abbrev cX0_give : ByteArray := prog_2_method_6_code
def yX0_give : MethodName := ⟨RX0, "give", "(ILMatNations$Comer;II)I"⟩
def RX1 : String := "MatNations$Comer"
def TX1 : u_T := fun k => match k with
  | 0 => ("MatNations$Comer", "sort", "I", false)
  | 1 => ("MatNations$Comer", "soil", "I", false)
  | 2 => ("MatNations$Comer", "from", "I", false)
  | 3 => ("MatNations$Comer", "manners", "I", false)
  | _ => ("MatNations$Comer", "came", "I", false)
def tyX1 : Nat → FieldType := fun k => match k with
  | 0 => .int
  | 1 => .int
  | 2 => .int
  | 3 => .int
  | _ => .int
abbrev wsX10 : List Cond := u_ws RX1 TX1 5
theorem nmX1 : ∀ a, a < 5 → ∀ b, b < 5 → a ≠ b → (TX1 a).2.1 ≠ (TX1 b).2.1 := by decide +kernel
theorem tyX1_ok : ∀ k, k < 5 → parseFieldDescriptor (TX1 k).2.2.1 = some (tyX1 k) := by decide +kernel
abbrev cX1_init : ByteArray := prog_3_method_1_code
def yX1_init : MethodName := ⟨RX1, "<init>", "()V"⟩
abbrev cX1_takeOver : ByteArray := prog_3_method_2_code
def yX1_takeOver : MethodName := ⟨RX1, "takeOver", "(LMatNations$Comer;)V"⟩
abbrev cX1_wipes : ByteArray := prog_3_method_3_code
def yX1_wipes : MethodName := ⟨RX1, "wipes", "(III)I"⟩
abbrev cX1_isOf : ByteArray := prog_3_method_4_code
def yX1_isOf : MethodName := ⟨RX1, "isOf", "(I)Z"⟩
def RX2 : String := "MatNations$Foretold"
def TX2 : u_T := fun k => match k with
  | 0 => ("MatNations$Foretold", "walk", "LMatNations$Walk;", true)
  | 1 => ("MatNations$Foretold", "suspect", "LMatNations$Comer;", true)
  | 2 => ("MatNations$Foretold", "levels", "[I", true)
  | 3 => ("MatNations$Foretold", "tried", "[I", true)
  | 4 => ("MatNations$Foretold", "best", "[I", true)
  | _ => ("MatNations$Foretold", "least", "I", false)
def tyX2 : Nat → FieldType := fun k => match k with
  | 0 => .object "MatNations$Walk"
  | 1 => .object "MatNations$Comer"
  | 2 => .array .int
  | 3 => .array .int
  | 4 => .array .int
  | _ => .int
abbrev wsX20 : List Cond := u_ws RX2 TX2 6
theorem nmX2 : ∀ a, a < 6 → ∀ b, b < 6 → a ≠ b → (TX2 a).2.1 ≠ (TX2 b).2.1 := by decide +kernel
theorem tyX2_ok : ∀ k, k < 6 → parseFieldDescriptor (TX2 k).2.2.1 = some (tyX2 k) := by decide +kernel
abbrev cX2_init : ByteArray := prog_4_method_1_code
def yX2_init : MethodName := ⟨RX2, "<init>", "()V"⟩
abbrev cX2_cleanOnes : ByteArray := prog_4_method_2_code
def yX2_cleanOnes : MethodName := ⟨RX2, "cleanOnes", "(LMatNations$House;)I"⟩
abbrev cX2_told : ByteArray := prog_4_method_3_code
def yX2_told : MethodName := ⟨RX2, "told", "(II)I"⟩
abbrev cX2_seekOrder : ByteArray := prog_4_method_4_code
def yX2_seekOrder : MethodName := ⟨RX2, "seekOrder", "(LMatNations$House;)V"⟩
abbrev cX2_tryOrders : ByteArray := prog_4_method_5_code
def yX2_tryOrders : MethodName := ⟨RX2, "tryOrders", "(LMatNations$House;III)V"⟩
abbrev cX2_seekLaying : ByteArray := prog_4_method_6_code
def yX2_seekLaying : MethodName := ⟨RX2, "seekLaying", "(LMatNations$House;)V"⟩
abbrev cX2_tryLayings : ByteArray := prog_4_method_7_code
def yX2_tryLayings : MethodName := ⟨RX2, "tryLayings", "(LMatNations$House;II)V"⟩
abbrev cX2_keepTried : ByteArray := prog_4_method_8_code
def yX2_keepTried : MethodName := ⟨RX2, "keepTried", "(II)V"⟩
abbrev cX2_fewestBeaten : ByteArray := prog_4_method_9_code
def yX2_fewestBeaten : MethodName := ⟨RX2, "fewestBeaten", "(LMatNations$House;II)I"⟩
abbrev cX2_carriedIfBeaten : ByteArray := prog_4_method_10_code
def yX2_carriedIfBeaten : MethodName := ⟨RX2, "carriedIfBeaten", "(LMatNations$House;II)I"⟩
abbrev cX2_uniters : ByteArray := prog_4_method_11_code
def yX2_uniters : MethodName := ⟨RX2, "uniters", "(LMatNations$House;II)I"⟩
abbrev cX2_bindsTo : ByteArray := prog_4_method_12_code
def yX2_bindsTo : MethodName := ⟨RX2, "bindsTo", "(LMatNations$House;III)Z"⟩
abbrev cX2_culprits : ByteArray := prog_4_method_13_code
def yX2_culprits : MethodName := ⟨RX2, "culprits", "(LMatNations$House;LMatNations$Rows;II)I"⟩
abbrev cX2_tryAs : ByteArray := prog_4_method_14_code
def yX2_tryAs : MethodName := ⟨RX2, "tryAs", "(LMatNations$Comer;)V"⟩
abbrev cX2_fitting : ByteArray := prog_4_method_15_code
def yX2_fitting : MethodName := ⟨RX2, "fitting", "(LMatNations$House;ILMatNations$Rows;II)I"⟩
abbrev cX2_giveTrait : ByteArray := prog_4_method_16_code
def yX2_giveTrait : MethodName := ⟨RX2, "giveTrait", "(II)V"⟩
abbrev cX2_isSoBehind : ByteArray := prog_4_method_17_code
def yX2_isSoBehind : MethodName := ⟨RX2, "isSoBehind", "(LMatNations$House;LMatNations$Comer;LMatNations$Rows;II)Z"⟩
abbrev cX2_likelihood : ByteArray := prog_4_method_18_code
def yX2_likelihood : MethodName := ⟨RX2, "likelihood", "(LMatNations$House;IIZ)I"⟩
abbrev cX2_weight : ByteArray := prog_4_method_19_code
def yX2_weight : MethodName := ⟨RX2, "weight", "(LMatNations$House;II)I"⟩
abbrev cX2_commonDivisor : ByteArray := prog_4_method_20_code
def yX2_commonDivisor : MethodName := ⟨RX2, "commonDivisor", "(II)I"⟩
abbrev cX2_years : ByteArray := prog_4_method_21_code
def yX2_years : MethodName := ⟨RX2, "years", "(LMatNations$House;IIZ)I"⟩
def RX3 : String := "MatNations$History"
def TX3 : u_T := fun k => match k with
  | 0 => ("MatNations$History", "cells", "[I", true)
  | 1 => ("MatNations$History", "next", "I", false)
  | _ => ("MatNations$History", "size", "I", false)
def tyX3 : Nat → FieldType := fun k => match k with
  | 0 => .array .int
  | 1 => .int
  | _ => .int
abbrev wsX30 : List Cond := u_ws RX3 TX3 3
theorem nmX3 : ∀ a, a < 3 → ∀ b, b < 3 → a ≠ b → (TX3 a).2.1 ≠ (TX3 b).2.1 := by decide +kernel
theorem tyX3_ok : ∀ k, k < 3 → parseFieldDescriptor (TX3 k).2.2.1 = some (tyX3 k) := by decide +kernel
abbrev cX3_init : ByteArray := prog_5_method_1_code
def yX3_init : MethodName := ⟨RX3, "<init>", "()V"⟩
abbrev cX3_isEmpty : ByteArray := prog_5_method_2_code
def yX3_isEmpty : MethodName := ⟨RX3, "isEmpty", "()Z"⟩
abbrev cX3_size : ByteArray := prog_5_method_3_code
def yX3_size : MethodName := ⟨RX3, "size", "()I"⟩
abbrev cX3_forget : ByteArray := prog_5_method_4_code
def yX3_forget : MethodName := ⟨RX3, "forget", "()V"⟩
abbrev cX3_keep : ByteArray := prog_5_method_5_code
def yX3_keep : MethodName := ⟨RX3, "keep", "(LMatNations$House;)V"⟩
abbrev cX3_takeBack : ByteArray := prog_5_method_6_code
def yX3_takeBack : MethodName := ⟨RX3, "takeBack", "(LMatNations$House;)I"⟩
def RX4 : String := "MatNations$House"
def TX4 : u_T := fun k => match k with
  | 0 => ("MatNations$House", "limit", "I", false)
  | 1 => ("MatNations$House", "bond", "I", false)
  | 2 => ("MatNations$House", "matCount", "I", false)
  | 3 => ("MatNations$House", "comerCount", "I", false)
  | 4 => ("MatNations$House", "mats", "[LMatNations$Mat;", true)
  | _ => ("MatNations$House", "comers", "[LMatNations$Comer;", true)
def tyX4 : Nat → FieldType := fun k => match k with
  | 0 => .int
  | 1 => .int
  | 2 => .int
  | 3 => .int
  | 4 => .array (.object "MatNations$Mat")
  | _ => .array (.object "MatNations$Comer")
abbrev wsX40 : List Cond := u_ws RX4 TX4 6
theorem nmX4 : ∀ a, a < 6 → ∀ b, b < 6 → a ≠ b → (TX4 a).2.1 ≠ (TX4 b).2.1 := by decide +kernel
theorem tyX4_ok : ∀ k, k < 6 → parseFieldDescriptor (TX4 k).2.2.1 = some (tyX4 k) := by decide +kernel
abbrev cX4_init : ByteArray := prog_6_method_1_code
def yX4_init : MethodName := ⟨RX4, "<init>", "()V"⟩
abbrev cX4_clear : ByteArray := prog_6_method_2_code
def yX4_clear : MethodName := ⟨RX4, "clear", "()V"⟩
abbrev cX4_takeOver : ByteArray := prog_6_method_3_code
def yX4_takeOver : MethodName := ⟨RX4, "takeOver", "(LMatNations$House;)V"⟩
abbrev cX4_writeCells : ByteArray := prog_6_method_4_code
def yX4_writeCells : MethodName := ⟨RX4, "writeCells", "([II)V"⟩
abbrev cX4_readCells : ByteArray := prog_6_method_5_code
def yX4_readCells : MethodName := ⟨RX4, "readCells", "([II)V"⟩
abbrev cX4_allComers : ByteArray := prog_6_method_6_code
def yX4_allComers : MethodName := ⟨RX4, "allComers", "()I"⟩
abbrev cX4_receive : ByteArray := prog_6_method_7_code
def yX4_receive : MethodName := ⟨RX4, "receive", "(LMatNations$Comer;LMatNations$Walk;)I"⟩
abbrev cX4_swapWithNext : ByteArray := prog_6_method_8_code
def yX4_swapWithNext : MethodName := ⟨RX4, "swapWithNext", "(I)V"⟩
abbrev cX4_rainOnAll : ByteArray := prog_6_method_9_code
def yX4_rainOnAll : MethodName := ⟨RX4, "rainOnAll", "(I)I"⟩
abbrev cX4_areAtOne : ByteArray := prog_6_method_10_code
def yX4_areAtOne : MethodName := ⟨RX4, "areAtOne", "(II)Z"⟩
abbrev cX4_pactCount : ByteArray := prog_6_method_11_code
def yX4_pactCount : MethodName := ⟨RX4, "pactCount", "()I"⟩
abbrev cX4_firstPact : ByteArray := prog_6_method_12_code
def yX4_firstPact : MethodName := ⟨RX4, "firstPact", "()I"⟩
abbrev cX4_lyingInAll : ByteArray := prog_6_method_13_code
def yX4_lyingInAll : MethodName := ⟨RX4, "lyingInAll", "()I"⟩
abbrev cX4_comings : ByteArray := prog_6_method_14_code
def yX4_comings : MethodName := ⟨RX4, "comings", "()I"⟩
def RX5 : String := "MatNations$Mat"
def TX5 : u_T := fun k => match k with
  | 0 => ("MatNations$Mat", "country", "I", false)
  | _ => ("MatNations$Mat", "soil", "[I", true)
def tyX5 : Nat → FieldType := fun k => match k with
  | 0 => .int
  | _ => .array .int
abbrev wsX50 : List Cond := u_ws RX5 TX5 2
theorem nmX5 : ∀ a, a < 2 → ∀ b, b < 2 → a ≠ b → (TX5 a).2.1 ≠ (TX5 b).2.1 := by decide +kernel
theorem tyX5_ok : ∀ k, k < 2 → parseFieldDescriptor (TX5 k).2.2.1 = some (tyX5 k) := by decide +kernel
abbrev cX5_init : ByteArray := prog_7_method_1_code
def yX5_init : MethodName := ⟨RX5, "<init>", "()V"⟩
abbrev cX5_lying : ByteArray := prog_7_method_2_code
def yX5_lying : MethodName := ⟨RX5, "lying", "()I"⟩
abbrev cX5_master : ByteArray := prog_7_method_3_code
def yX5_master : MethodName := ⟨RX5, "master", "()I"⟩
abbrev cX5_empty : ByteArray := prog_7_method_4_code
def yX5_empty : MethodName := ⟨RX5, "empty", "()V"⟩
abbrev cX5_takeOver : ByteArray := prog_7_method_5_code
def yX5_takeOver : MethodName := ⟨RX5, "takeOver", "(LMatNations$Mat;)V"⟩
def RX6 : String := "MatNations$Reader"
def TX6 : u_T := fun k => match k with
  | 0 => ("MatNations$Reader", "bytes", "[I", true)
  | 1 => ("MatNations$Reader", "length", "I", false)
  | 2 => ("MatNations$Reader", "at", "I", false)
  | _ => ("MatNations$Reader", "wrong", "I", false)
def tyX6 : Nat → FieldType := fun k => match k with
  | 0 => .array .int
  | 1 => .int
  | 2 => .int
  | _ => .int
abbrev wsX60 : List Cond := u_ws RX6 TX6 4
theorem nmX6 : ∀ a, a < 4 → ∀ b, b < 4 → a ≠ b → (TX6 a).2.1 ≠ (TX6 b).2.1 := by decide +kernel
theorem tyX6_ok : ∀ k, k < 4 → parseFieldDescriptor (TX6 k).2.2.1 = some (tyX6 k) := by decide +kernel
abbrev cX6_init : ByteArray := prog_8_method_1_code
def yX6_init : MethodName := ⟨RX6, "<init>", "()V"⟩
abbrev cX6_isFull : ByteArray := prog_8_method_2_code
def yX6_isFull : MethodName := ⟨RX6, "isFull", "()Z"⟩
abbrev cX6_size : ByteArray := prog_8_method_3_code
def yX6_size : MethodName := ⟨RX6, "size", "()I"⟩
abbrev cX6_append : ByteArray := prog_8_method_4_code
def yX6_append : MethodName := ⟨RX6, "append", "(I)I"⟩
abbrev cX6_place : ByteArray := prog_8_method_5_code
def yX6_place : MethodName := ⟨RX6, "place", "()I"⟩
abbrev cX6_readInto : ByteArray := prog_8_method_6_code
def yX6_readInto : MethodName := ⟨RX6, "readInto", "(LMatNations$House;)I"⟩
abbrev cX6_readLaw : ByteArray := prog_8_method_7_code
def yX6_readLaw : MethodName := ⟨RX6, "readLaw", "(LMatNations$House;)Z"⟩
abbrev cX6_readMats : ByteArray := prog_8_method_8_code
def yX6_readMats : MethodName := ⟨RX6, "readMats", "(LMatNations$House;)Z"⟩
abbrev cX6_readComers : ByteArray := prog_8_method_9_code
def yX6_readComers : MethodName := ⟨RX6, "readComers", "(LMatNations$House;)Z"⟩
abbrev cX6_readTraits : ByteArray := prog_8_method_10_code
def yX6_readTraits : MethodName := ⟨RX6, "readTraits", "(LMatNations$Comer;)Z"⟩
abbrev cX6_sortOf : ByteArray := prog_8_method_11_code
def yX6_sortOf : MethodName := ⟨RX6, "sortOf", "(I)I"⟩
abbrev cX6_seen : ByteArray := prog_8_method_12_code
def yX6_seen : MethodName := ⟨RX6, "seen", "()I"⟩
abbrev cX6_refuse : ByteArray := prog_8_method_13_code
def yX6_refuse : MethodName := ⟨RX6, "refuse", "(I)Z"⟩
abbrev cX6_takeByte : ByteArray := prog_8_method_14_code
def yX6_takeByte : MethodName := ⟨RX6, "takeByte", "(I)Z"⟩
abbrev cX6_takeNumber : ByteArray := prog_8_method_15_code
def yX6_takeNumber : MethodName := ⟨RX6, "takeNumber", "(II)I"⟩
abbrev cX6_isFigure : ByteArray := prog_8_method_16_code
def yX6_isFigure : MethodName := ⟨RX6, "isFigure", "(I)Z"⟩
def RX7 : String := "MatNations$Rows"
def TX7 : u_T := fun k => match k with
  | 0 => ("MatNations$Rows", "items", "[I", true)
  | 1 => ("MatNations$Rows", "lanes", "[I", true)
  | _ => ("MatNations$Rows", "sizes", "[I", true)
def tyX7 : Nat → FieldType := fun k => match k with
  | 0 => .array .int
  | 1 => .array .int
  | _ => .array .int
abbrev wsX70 : List Cond := u_ws RX7 TX7 3
theorem nmX7 : ∀ a, a < 3 → ∀ b, b < 3 → a ≠ b → (TX7 a).2.1 ≠ (TX7 b).2.1 := by decide +kernel
theorem tyX7_ok : ∀ k, k < 3 → parseFieldDescriptor (TX7 k).2.2.1 = some (tyX7 k) := by decide +kernel
abbrev cX7_init : ByteArray := prog_9_method_1_code
def yX7_init : MethodName := ⟨RX7, "<init>", "()V"⟩
abbrev cX7_isMissing : ByteArray := prog_9_method_2_code
def yX7_isMissing : MethodName := ⟨RX7, "isMissing", "(I)Z"⟩
abbrev cX7_sameLane : ByteArray := prog_9_method_3_code
def yX7_sameLane : MethodName := ⟨RX7, "sameLane", "(II)Z"⟩
abbrev cX7_reaches : ByteArray := prog_9_method_4_code
def yX7_reaches : MethodName := ⟨RX7, "reaches", "(III)Z"⟩
abbrev cX7_item : ByteArray := prog_9_method_5_code
def yX7_item : MethodName := ⟨RX7, "item", "(II)I"⟩
abbrev cX7_make : ByteArray := prog_9_method_6_code
def yX7_make : MethodName := ⟨RX7, "make", "(III)V"⟩
abbrev cX7_put : ByteArray := prog_9_method_7_code
def yX7_put : MethodName := ⟨RX7, "put", "(III)I"⟩
abbrev cX7_carryOver : ByteArray := prog_9_method_8_code
def yX7_carryOver : MethodName := ⟨RX7, "carryOver", "(IIIII)V"⟩
abbrev cX7_remove : ByteArray := prog_9_method_9_code
def yX7_remove : MethodName := ⟨RX7, "remove", "(I)I"⟩
abbrev cX7_present : ByteArray := prog_9_method_10_code
def yX7_present : MethodName := ⟨RX7, "present", "()I"⟩
def RX8 : String := "MatNations$Walk"
def TX8 : u_T := fun k => match k with
  | 0 => ("MatNations$Walk", "laid", "[I", true)
  | 1 => ("MatNations$Walk", "lying", "[I", true)
  | _ => ("MatNations$Walk", "left", "[I", true)
def tyX8 : Nat → FieldType := fun k => match k with
  | 0 => .array .int
  | 1 => .array .int
  | _ => .array .int
abbrev wsX80 : List Cond := u_ws RX8 TX8 3
theorem nmX8 : ∀ a, a < 3 → ∀ b, b < 3 → a ≠ b → (TX8 a).2.1 ≠ (TX8 b).2.1 := by decide +kernel
theorem tyX8_ok : ∀ k, k < 3 → parseFieldDescriptor (TX8 k).2.2.1 = some (tyX8 k) := by decide +kernel
abbrev cX8_init : ByteArray := prog_10_method_1_code
def yX8_init : MethodName := ⟨RX8, "<init>", "()V"⟩
abbrev cX8_begin : ByteArray := prog_10_method_2_code
def yX8_begin : MethodName := ⟨RX8, "begin", "(LMatNations$House;)V"⟩
abbrev cX8_goOver : ByteArray := prog_10_method_3_code
def yX8_goOver : MethodName := ⟨RX8, "goOver", "(LMatNations$House;LMatNations$Comer;)I"⟩
abbrev cX8_allGoOver : ByteArray := prog_10_method_4_code
def yX8_allGoOver : MethodName := ⟨RX8, "allGoOver", "(LMatNations$House;I)I"⟩
abbrev cX8_lyingInAll : ByteArray := prog_10_method_5_code
def yX8_lyingInAll : MethodName := ⟨RX8, "lyingInAll", "(LMatNations$House;)I"⟩
def RX9 : String := "MatNations"
def TX9 : u_T := fun k => match k with
  | 0 => ("MatNations", "rows", "LMatNations$Rows;", true)
  | 1 => ("MatNations", "reader", "LMatNations$Reader;", true)
  | 2 => ("MatNations", "house", "LMatNations$House;", true)
  | 3 => ("MatNations", "draft", "LMatNations$House;", true)
  | 4 => ("MatNations", "images", "[LMatNations$House;", true)
  | 5 => ("MatNations", "kept", "[Z", true)
  | 6 => ("MatNations", "history", "LMatNations$History;", true)
  | 7 => ("MatNations", "walk", "LMatNations$Walk;", true)
  | 8 => ("MatNations", "foretold", "LMatNations$Foretold;", true)
  | 9 => ("MatNations", "asks", "LMatNations$Asks;", true)
  | 10 => ("MatNations", "latestFault", "I", false)
  | _ => ("MatNations", "latestFinding", "I", false)
def tyX9 : Nat → FieldType := fun k => match k with
  | 0 => .object "MatNations$Rows"
  | 1 => .object "MatNations$Reader"
  | 2 => .object "MatNations$House"
  | 3 => .object "MatNations$House"
  | 4 => .array (.object "MatNations$House")
  | 5 => .array .boolean
  | 6 => .object "MatNations$History"
  | 7 => .object "MatNations$Walk"
  | 8 => .object "MatNations$Foretold"
  | 9 => .object "MatNations$Asks"
  | 10 => .int
  | _ => .int
abbrev wsX90 : List Cond := u_ws RX9 TX9 12
theorem nmX9 : ∀ a, a < 12 → ∀ b, b < 12 → a ≠ b → (TX9 a).2.1 ≠ (TX9 b).2.1 := by decide +kernel
theorem tyX9_ok : ∀ k, k < 12 → parseFieldDescriptor (TX9 k).2.2.1 = some (tyX9 k) := by decide +kernel
abbrev cX9_init : ByteArray := prog_1_method_1_code
def yX9_init : MethodName := ⟨RX9, "<init>", "()V"⟩
abbrev cX9_row : ByteArray := prog_1_method_2_code
def yX9_row : MethodName := ⟨RX9, "row", "(III)I"⟩
abbrev cX9_set : ByteArray := prog_1_method_3_code
def yX9_set : MethodName := ⟨RX9, "set", "(III)I"⟩
abbrev cX9_copy : ByteArray := prog_1_method_4_code
def yX9_copy : MethodName := ⟨RX9, "copy", "(IIIII)I"⟩
abbrev cX9_drop : ByteArray := prog_1_method_5_code
def yX9_drop : MethodName := ⟨RX9, "drop", "(I)I"⟩
abbrev cX9_feed : ByteArray := prog_1_method_6_code
def yX9_feed : MethodName := ⟨RX9, "feed", "(I)I"⟩
abbrev cX9_hotel : ByteArray := prog_1_method_7_code
def yX9_hotel : MethodName := ⟨RX9, "hotel", "()I"⟩
abbrev cX9_fault : ByteArray := prog_1_method_8_code
def yX9_fault : MethodName := ⟨RX9, "fault", "()I"⟩
abbrev cX9_come : ByteArray := prog_1_method_9_code
def yX9_come : MethodName := ⟨RX9, "come", "(I)I"⟩
abbrev cX9_beat : ByteArray := prog_1_method_10_code
def yX9_beat : MethodName := ⟨RX9, "beat", "(I)I"⟩
abbrev cX9_change : ByteArray := prog_1_method_11_code
def yX9_change : MethodName := ⟨RX9, "change", "(I)I"⟩
abbrev cX9_rain : ByteArray := prog_1_method_12_code
def yX9_rain : MethodName := ⟨RX9, "rain", "(I)I"⟩
abbrev cX9_undo : ByteArray := prog_1_method_13_code
def yX9_undo : MethodName := ⟨RX9, "undo", "()I"⟩
abbrev cX9_comer : ByteArray := prog_1_method_14_code
def yX9_comer : MethodName := ⟨RX9, "comer", "(II)I"⟩
abbrev cX9_mat : ByteArray := prog_1_method_15_code
def yX9_mat : MethodName := ⟨RX9, "mat", "(II)I"⟩
abbrev cX9_soil : ByteArray := prog_1_method_16_code
def yX9_soil : MethodName := ⟨RX9, "soil", "(II)I"⟩
abbrev cX9_atOne : ByteArray := prog_1_method_17_code
def yX9_atOne : MethodName := ⟨RX9, "atOne", "(II)I"⟩
abbrev cX9_leaves : ByteArray := prog_1_method_18_code
def yX9_leaves : MethodName := ⟨RX9, "leaves", "(II)I"⟩
abbrev cX9_carries : ByteArray := prog_1_method_19_code
def yX9_carries : MethodName := ⟨RX9, "carries", "(I)I"⟩
abbrev cX9_clean : ByteArray := prog_1_method_20_code
def yX9_clean : MethodName := ⟨RX9, "clean", "()I"⟩
abbrev cX9_order : ByteArray := prog_1_method_21_code
def yX9_order : MethodName := ⟨RX9, "order", "(I)I"⟩
abbrev cX9_laying : ByteArray := prog_1_method_22_code
def yX9_laying : MethodName := ⟨RX9, "laying", "(I)I"⟩
abbrev cX9_beating : ByteArray := prog_1_method_23_code
def yX9_beating : MethodName := ⟨RX9, "beating", "(III)I"⟩
abbrev cX9_pacts : ByteArray := prog_1_method_24_code
def yX9_pacts : MethodName := ⟨RX9, "pacts", "(I)I"⟩
abbrev cX9_could : ByteArray := prog_1_method_25_code
def yX9_could : MethodName := ⟨RX9, "could", "(II)I"⟩
abbrev cX9_who : ByteArray := prog_1_method_26_code
def yX9_who : MethodName := ⟨RX9, "who", "(II)I"⟩
abbrev cX9_fits : ByteArray := prog_1_method_27_code
def yX9_fits : MethodName := ⟨RX9, "fits", "(IIII)I"⟩
abbrev cX9_absent : ByteArray := prog_1_method_28_code
def yX9_absent : MethodName := ⟨RX9, "absent", "(III)I"⟩
abbrev cX9_drawn : ByteArray := prog_1_method_29_code
def yX9_drawn : MethodName := ⟨RX9, "drawn", "(III)I"⟩
abbrev cX9_image : ByteArray := prog_1_method_30_code
def yX9_image : MethodName := ⟨RX9, "image", "(I)I"⟩
abbrev cX9_restore : ByteArray := prog_1_method_31_code
def yX9_restore : MethodName := ⟨RX9, "restore", "(I)I"⟩
abbrev cX9_kind : ByteArray := prog_1_method_32_code
def yX9_kind : MethodName := ⟨RX9, "kind", "(I)I"⟩
abbrev cX9_as : ByteArray := prog_1_method_33_code
def yX9_as : MethodName := ⟨RX9, "as", "(II)I"⟩
abbrev cX9_ask : ByteArray := prog_1_method_34_code
def yX9_ask : MethodName := ⟨RX9, "ask", "(II)I"⟩
abbrev cX9_trace : ByteArray := prog_1_method_35_code
def yX9_trace : MethodName := ⟨RX9, "trace", "(I)I"⟩
abbrev cX9_count : ByteArray := prog_1_method_36_code
def yX9_count : MethodName := ⟨RX9, "count", "(I)I"⟩
abbrev cX9_status : ByteArray := prog_1_method_37_code
def yX9_status : MethodName := ⟨RX9, "status", "()I"⟩
abbrev cX9_noRow : ByteArray := prog_1_method_38_code
def yX9_noRow : MethodName := ⟨RX9, "noRow", "(I)Z"⟩
abbrev cX9_noImage : ByteArray := prog_1_method_39_code
def yX9_noImage : MethodName := ⟨RX9, "noImage", "(I)Z"⟩
abbrev cX9_noCarried : ByteArray := prog_1_method_40_code
def yX9_noCarried : MethodName := ⟨RX9, "noCarried", "(I)Z"⟩
abbrev cX9_neither : ByteArray := prog_1_method_41_code
def yX9_neither : MethodName := ⟨RX9, "neither", "(I)Z"⟩
abbrev cX9_noHotel : ByteArray := prog_1_method_42_code
def yX9_noHotel : MethodName := ⟨RX9, "noHotel", "()Z"⟩
abbrev cX9_noComer : ByteArray := prog_1_method_43_code
def yX9_noComer : MethodName := ⟨RX9, "noComer", "(I)Z"⟩
abbrev cX9_noMat : ByteArray := prog_1_method_44_code
def yX9_noMat : MethodName := ⟨RX9, "noMat", "(I)Z"⟩
abbrev cX9_found : ByteArray := prog_1_method_45_code
def yX9_found : MethodName := ⟨RX9, "found", "(I)I"⟩
abbrev cX9_unfound : ByteArray := prog_1_method_46_code
def yX9_unfound : MethodName := ⟨RX9, "unfound", "(I)I"⟩
abbrev cX9_matRowFinding : ByteArray := prog_1_method_47_code
def yX9_matRowFinding : MethodName := ⟨RX9, "matRowFinding", "(II)I"⟩
def RX10 : String := "MatNationsModel"
def TX10 : u_T := fun k => match k with
  | 0 => ("MatNationsModel", "row", "[I", true)
  | 1 => ("MatNationsModel", "isHotel", "Z", false)
  | 2 => ("MatNationsModel", "undos", "I", false)
  | 3 => ("MatNationsModel", "isKept", "[Z", true)
  | 4 => ("MatNationsModel", "lanes", "[I", true)
  | 5 => ("MatNationsModel", "sizes", "[I", true)
  | 6 => ("MatNationsModel", "items", "[I", true)
  | 7 => ("MatNationsModel", "tape", "[I", true)
  | 8 => ("MatNationsModel", "length", "I", false)
  | 9 => ("MatNationsModel", "fault", "I", false)
  | 10 => ("MatNationsModel", "status", "I", false)
  | 11 => ("MatNationsModel", "trace", "[I", true)
  | 12 => ("MatNationsModel", "traced", "I", false)
  | 13 => ("MatNationsModel", "at", "I", false)
  | 14 => ("MatNationsModel", "wrong", "I", false)
  | 15 => ("MatNationsModel", "number", "I", false)
  | 16 => ("MatNationsModel", "line", "[I", true)
  | _ => ("MatNationsModel", "bestLine", "[I", true)
def tyX10 : Nat → FieldType := fun k => match k with
  | 0 => .array .int
  | 1 => .boolean
  | 2 => .int
  | 3 => .array .boolean
  | 4 => .array .int
  | 5 => .array .int
  | 6 => .array .int
  | 7 => .array .int
  | 8 => .int
  | 9 => .int
  | 10 => .int
  | 11 => .array .int
  | 12 => .int
  | 13 => .int
  | 14 => .int
  | 15 => .int
  | 16 => .array .int
  | _ => .array .int
abbrev wsX100 : List Cond := u_ws RX10 TX10 18
theorem nmX10 : ∀ a, a < 18 → ∀ b, b < 18 → a ≠ b → (TX10 a).2.1 ≠ (TX10 b).2.1 := by decide +kernel
theorem tyX10_ok : ∀ k, k < 18 → parseFieldDescriptor (TX10 k).2.2.1 = some (tyX10 k) := by decide +kernel
abbrev cX10_init : ByteArray := prog_12_method_1_code
def yX10_init : MethodName := ⟨RX10, "<init>", "()V"⟩
abbrev cX10_in : ByteArray := prog_12_method_2_code
def yX10_in : MethodName := ⟨RX10, "in", "(JJJ)Z"⟩
abbrev cX10_has : ByteArray := prog_12_method_3_code
def yX10_has : MethodName := ⟨RX10, "has", "(II)Z"⟩
abbrev cX10_bits : ByteArray := prog_12_method_4_code
def yX10_bits : MethodName := ⟨RX10, "bits", "(I)I"⟩
abbrev cX10_find : ByteArray := prog_12_method_5_code
def yX10_find : MethodName := ⟨RX10, "find", "(I)I"⟩
abbrev cX10_well : ByteArray := prog_12_method_6_code
def yX10_well : MethodName := ⟨RX10, "well", "(I)I"⟩
abbrev cX10_isRow : ByteArray := prog_12_method_7_code
def yX10_isRow : MethodName := ⟨RX10, "isRow", "(I)Z"⟩
abbrev cX10_row : ByteArray := prog_12_method_8_code
def yX10_row : MethodName := ⟨RX10, "row", "(III)I"⟩
abbrev cX10_narrow : ByteArray := prog_12_method_9_code
def yX10_narrow : MethodName := ⟨RX10, "narrow", "(II)I"⟩
abbrev cX10_set : ByteArray := prog_12_method_10_code
def yX10_set : MethodName := ⟨RX10, "set", "(III)I"⟩
abbrev cX10_isSpan : ByteArray := prog_12_method_11_code
def yX10_isSpan : MethodName := ⟨RX10, "isSpan", "(III)Z"⟩
abbrev cX10_copy : ByteArray := prog_12_method_12_code
def yX10_copy : MethodName := ⟨RX10, "copy", "(IIIII)I"⟩
abbrev cX10_drop : ByteArray := prog_12_method_13_code
def yX10_drop : MethodName := ⟨RX10, "drop", "(I)I"⟩
abbrev cX10_feed : ByteArray := prog_12_method_14_code
def yX10_feed : MethodName := ⟨RX10, "feed", "(I)I"⟩
abbrev cX10_isLetter : ByteArray := prog_12_method_15_code
def yX10_isLetter : MethodName := ⟨RX10, "isLetter", "(I)Z"⟩
abbrev cX10_isFigure : ByteArray := prog_12_method_16_code
def yX10_isFigure : MethodName := ⟨RX10, "isFigure", "(I)Z"⟩
abbrev cX10_refuse : ByteArray := prog_12_method_17_code
def yX10_refuse : MethodName := ⟨RX10, "refuse", "(I)Z"⟩
abbrev cX10_sign : ByteArray := prog_12_method_18_code
def yX10_sign : MethodName := ⟨RX10, "sign", "(I)Z"⟩
abbrev cX10_readsNumber : ByteArray := prog_12_method_19_code
def yX10_readsNumber : MethodName := ⟨RX10, "readsNumber", "(II)Z"⟩
abbrev cX10_readsLaw : ByteArray := prog_12_method_20_code
def yX10_readsLaw : MethodName := ⟨RX10, "readsLaw", "()Z"⟩
abbrev cX10_readsMat : ByteArray := prog_12_method_21_code
def yX10_readsMat : MethodName := ⟨RX10, "readsMat", "()Z"⟩
abbrev cX10_kindOfLetter : ByteArray := prog_12_method_22_code
def yX10_kindOfLetter : MethodName := ⟨RX10, "kindOfLetter", "(I)I"⟩
abbrev cX10_readsComer : ByteArray := prog_12_method_23_code
def yX10_readsComer : MethodName := ⟨RX10, "readsComer", "()Z"⟩
abbrev cX10_isSort : ByteArray := prog_12_method_24_code
def yX10_isSort : MethodName := ⟨RX10, "isSort", "()Z"⟩
abbrev cX10_reads : ByteArray := prog_12_method_25_code
def yX10_reads : MethodName := ⟨RX10, "reads", "()Z"⟩
abbrev cX10_hotel : ByteArray := prog_12_method_26_code
def yX10_hotel : MethodName := ⟨RX10, "hotel", "()I"⟩
abbrev cX10_fault : ByteArray := prog_12_method_27_code
def yX10_fault : MethodName := ⟨RX10, "fault", "()I"⟩
abbrev cX10_copyTown : ByteArray := prog_12_method_28_code
def yX10_copyTown : MethodName := ⟨RX10, "copyTown", "(II)V"⟩
abbrev cX10_keepPast : ByteArray := prog_12_method_29_code
def yX10_keepPast : MethodName := ⟨RX10, "keepPast", "()V"⟩
abbrev cX10_undo : ByteArray := prog_12_method_30_code
def yX10_undo : MethodName := ⟨RX10, "undo", "()I"⟩
abbrev cX10_isComer : ByteArray := prog_12_method_31_code
def yX10_isComer : MethodName := ⟨RX10, "isComer", "(I)Z"⟩
abbrev cX10_isMat : ByteArray := prog_12_method_32_code
def yX10_isMat : MethodName := ⟨RX10, "isMat", "(I)Z"⟩
abbrev cX10_liesOn : ByteArray := prog_12_method_33_code
def yX10_liesOn : MethodName := ⟨RX10, "liesOn", "(II)I"⟩
abbrev cX10_onAll : ByteArray := prog_12_method_34_code
def yX10_onAll : MethodName := ⟨RX10, "onAll", "(I)I"⟩
abbrev cX10_leavesOn : ByteArray := prog_12_method_35_code
def yX10_leavesOn : MethodName := ⟨RX10, "leavesOn", "(IIII)I"⟩
abbrev cX10_comesAt : ByteArray := prog_12_method_36_code
def yX10_comesAt : MethodName := ⟨RX10, "comesAt", "(II)I"⟩
abbrev cX10_beatsAt : ByteArray := prog_12_method_37_code
def yX10_beatsAt : MethodName := ⟨RX10, "beatsAt", "(II)I"⟩
abbrev cX10_areAtOne : ByteArray := prog_12_method_38_code
def yX10_areAtOne : MethodName := ⟨RX10, "areAtOne", "(III)Z"⟩
abbrev cX10_come : ByteArray := prog_12_method_39_code
def yX10_come : MethodName := ⟨RX10, "come", "(I)I"⟩
abbrev cX10_beat : ByteArray := prog_12_method_40_code
def yX10_beat : MethodName := ⟨RX10, "beat", "(I)I"⟩
abbrev cX10_swapPlaces : ByteArray := prog_12_method_41_code
def yX10_swapPlaces : MethodName := ⟨RX10, "swapPlaces", "(II)V"⟩
abbrev cX10_change : ByteArray := prog_12_method_42_code
def yX10_change : MethodName := ⟨RX10, "change", "(I)I"⟩
abbrev cX10_rain : ByteArray := prog_12_method_43_code
def yX10_rain : MethodName := ⟨RX10, "rain", "(I)I"⟩
abbrev cX10_comer : ByteArray := prog_12_method_44_code
def yX10_comer : MethodName := ⟨RX10, "comer", "(II)I"⟩
abbrev cX10_masterOf : ByteArray := prog_12_method_45_code
def yX10_masterOf : MethodName := ⟨RX10, "masterOf", "(I)I"⟩
abbrev cX10_mat : ByteArray := prog_12_method_46_code
def yX10_mat : MethodName := ⟨RX10, "mat", "(II)I"⟩
abbrev cX10_soil : ByteArray := prog_12_method_47_code
def yX10_soil : MethodName := ⟨RX10, "soil", "(II)I"⟩
abbrev cX10_atOne : ByteArray := prog_12_method_48_code
def yX10_atOne : MethodName := ⟨RX10, "atOne", "(II)I"⟩
abbrev cX10_layTried : ByteArray := prog_12_method_49_code
def yX10_layTried : MethodName := ⟨RX10, "layTried", "()V"⟩
abbrev cX10_carriesIf : ByteArray := prog_12_method_50_code
def yX10_carriesIf : MethodName := ⟨RX10, "carriesIf", "(I)I"⟩
abbrev cX10_leaves : ByteArray := prog_12_method_51_code
def yX10_leaves : MethodName := ⟨RX10, "leaves", "(II)I"⟩
abbrev cX10_carries : ByteArray := prog_12_method_52_code
def yX10_carries : MethodName := ⟨RX10, "carries", "(I)I"⟩
abbrev cX10_clean : ByteArray := prog_12_method_53_code
def yX10_clean : MethodName := ⟨RX10, "clean", "()I"⟩
abbrev cX10_layLine : ByteArray := prog_12_method_54_code
def yX10_layLine : MethodName := ⟨RX10, "layLine", "(I)V"⟩
abbrev cX10_swapLine : ByteArray := prog_12_method_55_code
def yX10_swapLine : MethodName := ⟨RX10, "swapLine", "(II)V"⟩
abbrev cX10_takeLine : ByteArray := prog_12_method_56_code
def yX10_takeLine : MethodName := ⟨RX10, "takeLine", "()V"⟩
abbrev cX10_nextLine : ByteArray := prog_12_method_57_code
def yX10_nextLine : MethodName := ⟨RX10, "nextLine", "(I)Z"⟩
abbrev cX10_comeAll : ByteArray := prog_12_method_58_code
def yX10_comeAll : MethodName := ⟨RX10, "comeAll", "(I)I"⟩
abbrev cX10_order : ByteArray := prog_12_method_59_code
def yX10_order : MethodName := ⟨RX10, "order", "(I)I"⟩
abbrev cX10_layMats : ByteArray := prog_12_method_60_code
def yX10_layMats : MethodName := ⟨RX10, "layMats", "()V"⟩
abbrev cX10_laying : ByteArray := prog_12_method_61_code
def yX10_laying : MethodName := ⟨RX10, "laying", "(I)I"⟩
abbrev cX10_beating : ByteArray := prog_12_method_62_code
def yX10_beating : MethodName := ⟨RX10, "beating", "(III)I"⟩
abbrev cX10_pacts : ByteArray := prog_12_method_63_code
def yX10_pacts : MethodName := ⟨RX10, "pacts", "(I)I"⟩
abbrev cX10_could : ByteArray := prog_12_method_64_code
def yX10_could : MethodName := ⟨RX10, "could", "(II)I"⟩
abbrev cX10_noItems : ByteArray := prog_12_method_65_code
def yX10_noItems : MethodName := ⟨RX10, "noItems", "(II)I"⟩
abbrev cX10_isSo : ByteArray := prog_12_method_66_code
def yX10_isSo : MethodName := ⟨RX10, "isSo", "(III)Z"⟩
abbrev cX10_who : ByteArray := prog_12_method_67_code
def yX10_who : MethodName := ⟨RX10, "who", "(II)I"⟩
abbrev cX10_fits : ByteArray := prog_12_method_68_code
def yX10_fits : MethodName := ⟨RX10, "fits", "(IIII)I"⟩
abbrev cX10_absent : ByteArray := prog_12_method_69_code
def yX10_absent : MethodName := ⟨RX10, "absent", "(III)I"⟩
abbrev cX10_drawn : ByteArray := prog_12_method_70_code
def yX10_drawn : MethodName := ⟨RX10, "drawn", "(III)I"⟩
abbrev cX10_image : ByteArray := prog_12_method_71_code
def yX10_image : MethodName := ⟨RX10, "image", "(I)I"⟩
abbrev cX10_restore : ByteArray := prog_12_method_72_code
def yX10_restore : MethodName := ⟨RX10, "restore", "(I)I"⟩
abbrev cX10_kind : ByteArray := prog_12_method_73_code
def yX10_kind : MethodName := ⟨RX10, "kind", "(I)I"⟩
abbrev cX10_isOf : ByteArray := prog_12_method_74_code
def yX10_isOf : MethodName := ⟨RX10, "isOf", "(II)Z"⟩
abbrev cX10_as : ByteArray := prog_12_method_75_code
def yX10_as : MethodName := ⟨RX10, "as", "(II)I"⟩
abbrev cX10_begin : ByteArray := prog_12_method_76_code
def yX10_begin : MethodName := ⟨RX10, "begin", "(I)V"⟩
abbrev cX10_lentSize : ByteArray := prog_12_method_77_code
def yX10_lentSize : MethodName := ⟨RX10, "lentSize", "(I)I"⟩
abbrev cX10_wiperSize : ByteArray := prog_12_method_78_code
def yX10_wiperSize : MethodName := ⟨RX10, "wiperSize", "(I)I"⟩
abbrev cX10_stamperSize : ByteArray := prog_12_method_79_code
def yX10_stamperSize : MethodName := ⟨RX10, "stamperSize", "(I)I"⟩
abbrev cX10_sizeOf : ByteArray := prog_12_method_80_code
def yX10_sizeOf : MethodName := ⟨RX10, "sizeOf", "(I)I"⟩
abbrev cX10_lentMark : ByteArray := prog_12_method_81_code
def yX10_lentMark : MethodName := ⟨RX10, "lentMark", "(I)I"⟩
abbrev cX10_wiperMark : ByteArray := prog_12_method_82_code
def yX10_wiperMark : MethodName := ⟨RX10, "wiperMark", "(I)I"⟩
abbrev cX10_mark : ByteArray := prog_12_method_83_code
def yX10_mark : MethodName := ⟨RX10, "mark", "(I)I"⟩
abbrev cX10_stamperMark : ByteArray := prog_12_method_84_code
def yX10_stamperMark : MethodName := ⟨RX10, "stamperMark", "(I)I"⟩
abbrev cX10_ask : ByteArray := prog_12_method_85_code
def yX10_ask : MethodName := ⟨RX10, "ask", "(II)I"⟩
abbrev cX10_trace : ByteArray := prog_12_method_86_code
def yX10_trace : MethodName := ⟨RX10, "trace", "(I)I"⟩
abbrev cX10_comings : ByteArray := prog_12_method_87_code
def yX10_comings : MethodName := ⟨RX10, "comings", "()I"⟩
abbrev cX10_count : ByteArray := prog_12_method_88_code
def yX10_count : MethodName := ⟨RX10, "count", "(I)I"⟩
abbrev cX10_status : ByteArray := prog_12_method_89_code
def yX10_status : MethodName := ⟨RX10, "status", "()I"⟩
def RJ6 : String := "java/lang/Integer"
def TJ6 : u_T := fun k => match k with
  | _ => ("", "", "", false)
def tyJ6 : Nat → FieldType := fun k => match k with
  | _ => .int
abbrev wsJ60 : List Cond := u_ws RJ6 TJ6 0
theorem nmJ6 : ∀ a, a < 0 → ∀ b, b < 0 → a ≠ b → (TJ6 a).2.1 ≠ (TJ6 b).2.1 := by decide +kernel
theorem tyJ6_ok : ∀ k, k < 0 → parseFieldDescriptor (TJ6 k).2.2.1 = some (tyJ6 k) := by decide +kernel
abbrev cJ6_bitCount_0f7a4 : ByteArray := prog_13_method_49_code
def yJ6_bitCount_0f7a4 : MethodName := ⟨RJ6, "bitCount", "(I)I"⟩
def RJ9 : String := "java/lang/Math"
def TJ9 : u_T := fun k => match k with
  | _ => ("", "", "", false)
def tyJ9 : Nat → FieldType := fun k => match k with
  | _ => .int
abbrev wsJ90 : List Cond := u_ws RJ9 TJ9 0
theorem nmJ9 : ∀ a, a < 0 → ∀ b, b < 0 → a ≠ b → (TJ9 a).2.1 ≠ (TJ9 b).2.1 := by decide +kernel
theorem tyJ9_ok : ∀ k, k < 0 → parseFieldDescriptor (TJ9 k).2.2.1 = some (tyJ9 k) := by decide +kernel
abbrev cJ9_min_7cf53 : ByteArray := prog_14_method_69_code
def yJ9_min_7cf53 : MethodName := ⟨RJ9, "min", "(II)I"⟩
def RJ10 : String := "java/lang/System"
def TJ10 : u_T := fun k => match k with
  | _ => ("", "", "", false)
def tyJ10 : Nat → FieldType := fun k => match k with
  | _ => .int
abbrev wsJ100 : List Cond := u_ws RJ10 TJ10 0
theorem nmJ10 : ∀ a, a < 0 → ∀ b, b < 0 → a ≠ b → (TJ10 a).2.1 ≠ (TJ10 b).2.1 := by decide +kernel
theorem tyJ10_ok : ∀ k, k < 0 → parseFieldDescriptor (TJ10 k).2.2.1 = some (tyJ10 k) := by decide +kernel
def RL : String := "MatNationsLaw"
abbrev cL_law : ByteArray := code
def yL_law : MethodName := ⟨RL, "law", "([I)Z"⟩
abbrev vwCl : List vw_C := [(RX0, TX0, 2), (RX1, TX1, 5), (RX2, TX2, 6), (RX3, TX3, 3), (RX4, TX4, 6), (RX5, TX5, 2), (RX6, TX6, 4), (RX7, TX7, 3), (RX8, TX8, 3), (RX9, TX9, 12), (RX10, TX10, 18)]
end
section
/-! tables as numbers: methods, pool entries; the last number of a row is the place of its word in lw_tbl -/
def jm_cn : List String := ["MatNations$Asks", "MatNations$Comer", "MatNations$Foretold", "MatNations$History", "MatNations$House", "MatNations$Mat", "MatNations$Reader", "MatNations$Rows", "MatNations$Walk", "MatNations", "MatNationsModel", "MatNationsLaw", "java/lang/Integer", "java/lang/Math"]
/-- name, code, locals, answer, class, parameters, kind (0 an object's, 1 static, 2 a constructor), cells and slots that it makes, the places of its words -/
abbrev jm_I : Type := MethodName × ByteArray × Nat × Option FieldType × Nat × Nat × Nat × Nat × Nat × List Nat
def jm_i_X0_init : jm_I := (yX0_init, cX0_init, 1, none, 0, 0, 2, 1, 16, [311, 79, 310])
def jm_i_X0_answer : jm_I := (yX0_answer, cX0_answer, 4, some .int, 0, 3, 0, 0, 0, [843, 79, 841, 842])
def jm_i_X0_traced : jm_I := (yX0_traced, cX0_traced, 2, some .int, 0, 1, 0, 0, 0, [866, 79, 864, 865])
def jm_i_X0_bodyOf : jm_I := (yX0_bodyOf, cX0_bodyOf, 3, some .int, 0, 2, 1, 0, 0, [846, 79, 845])
def jm_i_X0_leaveTrace : jm_I := (yX0_leaveTrace, cX0_leaveTrace, 2, none, 0, 1, 0, 0, 0, [858, 79, 857, 22])
def jm_i_X0_give : jm_I := (yX0_give, cX0_give, 6, some .int, 0, 4, 0, 0, 0, [854, 79, 853, 21])
def jm_i_X1_init : jm_I := (yX1_init, cX1_init, 1, none, 1, 0, 2, 0, 0, [161, 75, 160])
def jm_i_X1_takeOver : jm_I := (yX1_takeOver, cX1_takeOver, 2, none, 1, 1, 0, 0, 0, [501, 75, 499, 500])
def jm_i_X1_wipes : jm_I := (yX1_wipes, cX1_wipes, 4, some .int, 1, 3, 0, 0, 0, [549, 75, 547, 548])
def jm_i_X1_isOf : jm_I := (yX1_isOf, cX1_isOf, 4, some .boolean, 1, 1, 0, 0, 0, [833, 75, 831, 832])
def jm_i_X2_init : jm_I := (yX2_init, cX2_init, 1, none, 2, 0, 2, 8, 56, [282, 78, 281])
def jm_i_X2_cleanOnes : jm_I := (yX2_cleanOnes, cX2_cleanOnes, 4, some .int, 2, 1, 0, 0, 0, [641, 78, 639, 640])
def jm_i_X2_told : jm_I := (yX2_told, cX2_told, 3, some .int, 2, 2, 0, 0, 0, [664, 78, 662, 663])
def jm_i_X2_seekOrder : jm_I := (yX2_seekOrder, cX2_seekOrder, 2, none, 2, 1, 0, 0, 0, [651, 78, 649, 650])
def jm_i_X2_tryOrders : jm_I := (yX2_tryOrders, cX2_tryOrders, 7, none, 2, 4, 0, 0, 0, [655, 78, 654, 13])
def jm_i_X2_seekLaying : jm_I := (yX2_seekLaying, cX2_seekLaying, 2, none, 2, 1, 0, 0, 0, [673, 78, 671, 672])
def jm_i_X2_tryLayings : jm_I := (yX2_tryLayings, cX2_tryLayings, 5, none, 2, 3, 0, 0, 0, [677, 78, 676, 15])
def jm_i_X2_keepTried : jm_I := (yX2_keepTried, cX2_keepTried, 3, none, 2, 2, 0, 0, 0, [659, 78, 658, 14])
def jm_i_X2_fewestBeaten : jm_I := (yX2_fewestBeaten, cX2_fewestBeaten, 7, some .int, 2, 3, 0, 0, 0, [701, 78, 699, 700])
def jm_i_X2_carriedIfBeaten : jm_I := (yX2_carriedIfBeaten, cX2_carriedIfBeaten, 5, some .int, 2, 3, 0, 0, 0, [711, 78, 710, 16])
def jm_i_X2_uniters : jm_I := (yX2_uniters, cX2_uniters, 7, some .int, 2, 3, 0, 0, 0, [735, 78, 733, 734])
def jm_i_X2_bindsTo : jm_I := (yX2_bindsTo, cX2_bindsTo, 7, some .boolean, 2, 4, 0, 0, 0, [739, 78, 738, 17])
def jm_i_X2_culprits : jm_I := (yX2_culprits, cX2_culprits, 7, some .int, 2, 4, 0, 0, 0, [751, 78, 749, 750])
def jm_i_X2_tryAs : jm_I := (yX2_tryAs, cX2_tryAs, 2, none, 2, 1, 0, 0, 0, [767, 78, 765, 766])
def jm_i_X2_fitting : jm_I := (yX2_fitting, cX2_fitting, 8, some .int, 2, 5, 0, 0, 0, [772, 78, 770, 771])
def jm_i_X2_giveTrait : jm_I := (yX2_giveTrait, cX2_giveTrait, 3, none, 2, 2, 0, 0, 0, [780, 78, 779, 20])
def jm_i_X2_isSoBehind : jm_I := (yX2_isSoBehind, cX2_isSoBehind, 7, some .boolean, 2, 5, 0, 0, 0, [755, 78, 754, 19])
def jm_i_X2_likelihood : jm_I := (yX2_likelihood, cX2_likelihood, 8, some .int, 2, 4, 0, 0, 0, [788, 78, 786, 787])
def jm_i_X2_weight : jm_I := (yX2_weight, cX2_weight, 5, some .int, 2, 3, 1, 0, 0, [791, 78, 790])
def jm_i_X2_commonDivisor : jm_I := (yX2_commonDivisor, cX2_commonDivisor, 6, some .int, 2, 2, 1, 0, 0, [794, 78, 793])
def jm_i_X2_years : jm_I := (yX2_years, cX2_years, 9, some .int, 2, 4, 0, 0, 0, [803, 78, 801, 802])
def jm_i_X3_init : jm_I := (yX3_init, cX3_init, 1, none, 3, 0, 2, 1, 960, [244, 76, 243])
def jm_i_X3_isEmpty : jm_I := (yX3_isEmpty, cX3_isEmpty, 1, some .boolean, 3, 0, 0, 0, 0, [590, 76, 588, 589])
def jm_i_X3_size : jm_I := (yX3_size, cX3_size, 1, some .int, 3, 0, 0, 0, 0, [889, 76, 887, 888])
def jm_i_X3_forget : jm_I := (yX3_forget, cX3_forget, 1, none, 3, 0, 0, 0, 0, [505, 76, 503, 504])
def jm_i_X3_keep : jm_I := (yX3_keep, cX3_keep, 2, none, 3, 1, 0, 0, 0, [521, 76, 519, 520])
def jm_i_X3_takeBack : jm_I := (yX3_takeBack, cX3_takeBack, 2, some .int, 3, 1, 0, 0, 0, [594, 76, 592, 593])
def jm_i_X4_init : jm_I := (yX4_init, cX4_init, 2, none, 4, 0, 2, 16, 72, [132, 73, 131])
def jm_i_X4_clear : jm_I := (yX4_clear, cX4_clear, 2, none, 4, 0, 0, 0, 0, [441, 73, 439, 440])
def jm_i_X4_takeOver : jm_I := (yX4_takeOver, cX4_takeOver, 3, none, 4, 1, 0, 0, 0, [492, 73, 490, 491])
def jm_i_X4_writeCells : jm_I := (yX4_writeCells, cX4_writeCells, 5, none, 4, 2, 0, 0, 0, [525, 73, 523, 524])
def jm_i_X4_readCells : jm_I := (yX4_readCells, cX4_readCells, 5, none, 4, 2, 0, 0, 0, [598, 73, 596, 597])
def jm_i_X4_allComers : jm_I := (yX4_allComers, cX4_allComers, 1, some .int, 4, 0, 0, 0, 0, [681, 73, 679, 680])
def jm_i_X4_receive : jm_I := (yX4_receive, cX4_receive, 5, some .int, 4, 2, 0, 0, 0, [533, 73, 531, 532])
def jm_i_X4_swapWithNext : jm_I := (yX4_swapWithNext, cX4_swapWithNext, 3, none, 4, 1, 0, 0, 0, [568, 73, 566, 567])
def jm_i_X4_rainOnAll : jm_I := (yX4_rainOnAll, cX4_rainOnAll, 4, some .int, 4, 1, 0, 0, 0, [581, 73, 579, 580])
def jm_i_X4_areAtOne : jm_I := (yX4_areAtOne, cX4_areAtOne, 3, some .boolean, 4, 2, 0, 0, 0, [623, 73, 621, 622])
def jm_i_X4_pactCount : jm_I := (yX4_pactCount, cX4_pactCount, 4, some .int, 4, 0, 0, 0, 0, [721, 73, 719, 720])
def jm_i_X4_firstPact : jm_I := (yX4_firstPact, cX4_firstPact, 3, some .int, 4, 0, 0, 0, 0, [726, 73, 724, 725])
def jm_i_X4_lyingInAll : jm_I := (yX4_lyingInAll, cX4_lyingInAll, 3, some .int, 4, 0, 0, 0, 0, [880, 73, 878, 879])
def jm_i_X4_comings : jm_I := (yX4_comings, cX4_comings, 3, some .int, 4, 0, 0, 0, 0, [885, 73, 883, 884])
def jm_i_X5_init : jm_I := (yX5_init, cX5_init, 1, none, 5, 0, 2, 1, 6, [141, 74, 140])
def jm_i_X5_lying : jm_I := (yX5_lying, cX5_lying, 3, some .int, 5, 0, 0, 0, 0, [541, 74, 539, 540])
def jm_i_X5_master : jm_I := (yX5_master, cX5_master, 3, some .int, 5, 0, 0, 0, 0, [610, 74, 608, 609])
def jm_i_X5_empty : jm_I := (yX5_empty, cX5_empty, 2, none, 5, 0, 0, 0, 0, [445, 74, 443, 444])
def jm_i_X5_takeOver : jm_I := (yX5_takeOver, cX5_takeOver, 2, none, 5, 1, 0, 0, 0, [496, 74, 494, 495])
def jm_i_X6_init : jm_I := (yX6_init, cX6_init, 1, none, 6, 0, 2, 1, 100, [113, 72, 112])
def jm_i_X6_isFull : jm_I := (yX6_isFull, cX6_isFull, 1, some .boolean, 6, 0, 0, 0, 0, [424, 72, 422, 423])
def jm_i_X6_size : jm_I := (yX6_size, cX6_size, 1, some .int, 6, 0, 0, 0, 0, [893, 72, 891, 892])
def jm_i_X6_append : jm_I := (yX6_append, cX6_append, 2, some .int, 6, 1, 0, 0, 0, [429, 72, 427, 428])
def jm_i_X6_place : jm_I := (yX6_place, cX6_place, 1, some .int, 6, 0, 0, 0, 0, [488, 72, 486, 487])
def jm_i_X6_readInto : jm_I := (yX6_readInto, cX6_readInto, 2, some .int, 6, 1, 0, 0, 0, [437, 72, 435, 436])
def jm_i_X6_readLaw : jm_I := (yX6_readLaw, cX6_readLaw, 2, some .boolean, 6, 1, 0, 0, 0, [449, 72, 448, 2])
def jm_i_X6_readMats : jm_I := (yX6_readMats, cX6_readMats, 3, some .boolean, 6, 1, 0, 0, 0, [472, 72, 471, 7])
def jm_i_X6_readComers : jm_I := (yX6_readComers, cX6_readComers, 4, some .boolean, 6, 1, 0, 0, 0, [476, 72, 475, 8])
def jm_i_X6_readTraits : jm_I := (yX6_readTraits, cX6_readTraits, 2, some .boolean, 6, 1, 0, 0, 0, [483, 72, 482, 9])
def jm_i_X6_sortOf : jm_I := (yX6_sortOf, cX6_sortOf, 1, some .int, 6, 1, 1, 0, 0, [479, 72, 478])
def jm_i_X6_seen : jm_I := (yX6_seen, cX6_seen, 1, some .int, 6, 0, 0, 0, 0, [457, 72, 456, 4])
def jm_i_X6_refuse : jm_I := (yX6_refuse, cX6_refuse, 2, some .boolean, 6, 1, 0, 0, 0, [461, 72, 460, 5])
def jm_i_X6_takeByte : jm_I := (yX6_takeByte, cX6_takeByte, 2, some .boolean, 6, 1, 0, 0, 0, [453, 72, 452, 3])
def jm_i_X6_takeNumber : jm_I := (yX6_takeNumber, cX6_takeNumber, 5, some .int, 6, 2, 0, 0, 0, [465, 72, 464, 6])
def jm_i_X6_isFigure : jm_I := (yX6_isFigure, cX6_isFigure, 1, some .boolean, 6, 1, 1, 0, 0, [468, 72, 467])
def jm_i_X7_init : jm_I := (yX7_init, cX7_init, 2, none, 7, 0, 2, 3, 336, [96, 71, 95])
def jm_i_X7_isMissing : jm_I := (yX7_isMissing, cX7_isMissing, 2, some .boolean, 7, 1, 0, 0, 0, [385, 71, 383, 384])
def jm_i_X7_sameLane : jm_I := (yX7_sameLane, cX7_sameLane, 3, some .boolean, 7, 2, 0, 0, 0, [401, 71, 399, 400])
def jm_i_X7_reaches : jm_I := (yX7_reaches, cX7_reaches, 4, some .boolean, 7, 3, 0, 0, 0, [389, 71, 387, 388])
def jm_i_X7_item : jm_I := (yX7_item, cX7_item, 3, some .int, 7, 2, 0, 0, 0, [759, 71, 757, 758])
def jm_i_X7_make : jm_I := (yX7_make, cX7_make, 5, none, 7, 3, 0, 0, 0, [373, 71, 371, 372])
def jm_i_X7_put : jm_I := (yX7_put, cX7_put, 5, some .int, 7, 3, 0, 0, 0, [393, 71, 391, 392])
def jm_i_X7_carryOver : jm_I := (yX7_carryOver, cX7_carryOver, 6, none, 7, 5, 0, 0, 0, [405, 71, 403, 404])
def jm_i_X7_remove : jm_I := (yX7_remove, cX7_remove, 3, some .int, 7, 1, 0, 0, 0, [416, 71, 414, 415])
def jm_i_X7_present : jm_I := (yX7_present, cX7_present, 3, some .int, 7, 0, 0, 0, 0, [875, 71, 873, 874])
def jm_i_X8_init : jm_I := (yX8_init, cX8_init, 1, none, 8, 0, 2, 3, 12, [261, 77, 260])
def jm_i_X8_begin : jm_I := (yX8_begin, cX8_begin, 3, none, 8, 1, 0, 0, 0, [537, 77, 535, 536])
def jm_i_X8_goOver : jm_I := (yX8_goOver, cX8_goOver, 7, some .int, 8, 2, 0, 0, 0, [545, 77, 543, 544])
def jm_i_X8_allGoOver : jm_I := (yX8_allGoOver, cX8_allGoOver, 5, some .int, 8, 2, 0, 0, 0, [685, 77, 683, 684])
def jm_i_X8_lyingInAll : jm_I := (yX8_lyingInAll, cX8_lyingInAll, 4, some .int, 8, 1, 0, 0, 0, [810, 77, 808, 809])
def jm_i_X9_init : jm_I := (yX9_init, cX9_init, 2, none, 9, 0, 2, 93, 1817, [88, 70, 87])
def jm_i_X9_row : jm_I := (yX9_row, cX9_row, 4, some .int, 9, 3, 0, 0, 0, [360, 70, 358, 359])
def jm_i_X9_set : jm_I := (yX9_set, cX9_set, 4, some .int, 9, 3, 0, 0, 0, [381, 70, 379, 380])
def jm_i_X9_copy : jm_I := (yX9_copy, cX9_copy, 6, some .int, 9, 5, 0, 0, 0, [397, 70, 395, 396])
def jm_i_X9_drop : jm_I := (yX9_drop, cX9_drop, 2, some .int, 9, 1, 0, 0, 0, [412, 70, 410, 411])
def jm_i_X9_feed : jm_I := (yX9_feed, cX9_feed, 2, some .int, 9, 1, 0, 0, 0, [420, 70, 418, 419])
def jm_i_X9_hotel : jm_I := (yX9_hotel, cX9_hotel, 2, some .int, 9, 0, 0, 0, 0, [433, 70, 431, 432])
def jm_i_X9_fault : jm_I := (yX9_fault, cX9_fault, 1, some .int, 9, 0, 0, 0, 0, [509, 70, 507, 508])
def jm_i_X9_come : jm_I := (yX9_come, cX9_come, 2, some .int, 9, 1, 0, 0, 0, [513, 70, 511, 512])
def jm_i_X9_beat : jm_I := (yX9_beat, cX9_beat, 3, some .int, 9, 1, 0, 0, 0, [554, 70, 552, 553])
def jm_i_X9_change : jm_I := (yX9_change, cX9_change, 2, some .int, 9, 1, 0, 0, 0, [564, 70, 562, 563])
def jm_i_X9_rain : jm_I := (yX9_rain, cX9_rain, 2, some .int, 9, 1, 0, 0, 0, [572, 70, 570, 571])
def jm_i_X9_undo : jm_I := (yX9_undo, cX9_undo, 1, some .int, 9, 0, 0, 0, 0, [586, 70, 584, 585])
def jm_i_X9_comer : jm_I := (yX9_comer, cX9_comer, 4, some .int, 9, 2, 0, 0, 0, [602, 70, 600, 601])
def jm_i_X9_mat : jm_I := (yX9_mat, cX9_mat, 4, some .int, 9, 2, 0, 0, 0, [606, 70, 604, 605])
def jm_i_X9_soil : jm_I := (yX9_soil, cX9_soil, 3, some .int, 9, 2, 0, 0, 0, [615, 70, 613, 614])
def jm_i_X9_atOne : jm_I := (yX9_atOne, cX9_atOne, 3, some .int, 9, 2, 0, 0, 0, [619, 70, 617, 618])
def jm_i_X9_leaves : jm_I := (yX9_leaves, cX9_leaves, 3, some .int, 9, 2, 0, 0, 0, [627, 70, 625, 626])
def jm_i_X9_carries : jm_I := (yX9_carries, cX9_carries, 2, some .int, 9, 1, 0, 0, 0, [633, 70, 631, 632])
def jm_i_X9_clean : jm_I := (yX9_clean, cX9_clean, 1, some .int, 9, 0, 0, 0, 0, [637, 70, 635, 636])
def jm_i_X9_order : jm_I := (yX9_order, cX9_order, 2, some .int, 9, 1, 0, 0, 0, [647, 70, 645, 646])
def jm_i_X9_laying : jm_I := (yX9_laying, cX9_laying, 2, some .int, 9, 1, 0, 0, 0, [669, 70, 667, 668])
def jm_i_X9_beating : jm_I := (yX9_beating, cX9_beating, 5, some .int, 9, 3, 0, 0, 0, [690, 70, 688, 689])
def jm_i_X9_pacts : jm_I := (yX9_pacts, cX9_pacts, 2, some .int, 9, 1, 0, 0, 0, [717, 70, 715, 716])
def jm_i_X9_could : jm_I := (yX9_could, cX9_could, 3, some .int, 9, 2, 0, 0, 0, [731, 70, 729, 730])
def jm_i_X9_who : jm_I := (yX9_who, cX9_who, 4, some .int, 9, 2, 0, 0, 0, [743, 70, 741, 742])
def jm_i_X9_fits : jm_I := (yX9_fits, cX9_fits, 6, some .int, 9, 4, 0, 0, 0, [763, 70, 761, 762])
def jm_i_X9_absent : jm_I := (yX9_absent, cX9_absent, 4, some .int, 9, 3, 0, 0, 0, [784, 70, 782, 783])
def jm_i_X9_drawn : jm_I := (yX9_drawn, cX9_drawn, 4, some .int, 9, 3, 0, 0, 0, [798, 70, 796, 797])
def jm_i_X9_image : jm_I := (yX9_image, cX9_image, 2, some .int, 9, 1, 0, 0, 0, [814, 70, 812, 813])
def jm_i_X9_restore : jm_I := (yX9_restore, cX9_restore, 2, some .int, 9, 1, 0, 0, 0, [821, 70, 819, 820])
def jm_i_X9_kind : jm_I := (yX9_kind, cX9_kind, 2, some .int, 9, 1, 0, 0, 0, [825, 70, 823, 824])
def jm_i_X9_as : jm_I := (yX9_as, cX9_as, 3, some .int, 9, 2, 0, 0, 0, [829, 70, 827, 828])
def jm_i_X9_ask : jm_I := (yX9_ask, cX9_ask, 3, some .int, 9, 2, 0, 0, 0, [839, 70, 837, 838])
def jm_i_X9_trace : jm_I := (yX9_trace, cX9_trace, 2, some .int, 9, 1, 0, 0, 0, [862, 70, 860, 861])
def jm_i_X9_count : jm_I := (yX9_count, cX9_count, 2, some .int, 9, 1, 0, 0, 0, [871, 70, 869, 870])
def jm_i_X9_status : jm_I := (yX9_status, cX9_status, 1, some .int, 9, 0, 0, 0, 0, [897, 70, 895, 896])
def jm_i_X9_noRow : jm_I := (yX9_noRow, cX9_noRow, 1, some .boolean, 9, 1, 1, 0, 0, [363, 70, 362])
def jm_i_X9_noImage : jm_I := (yX9_noImage, cX9_noImage, 1, some .boolean, 9, 1, 1, 0, 0, [817, 70, 816])
def jm_i_X9_noCarried : jm_I := (yX9_noCarried, cX9_noCarried, 1, some .boolean, 9, 1, 1, 0, 0, [694, 70, 693])
def jm_i_X9_neither : jm_I := (yX9_neither, cX9_neither, 1, some .boolean, 9, 1, 1, 0, 0, [697, 70, 696])
def jm_i_X9_noHotel : jm_I := (yX9_noHotel, cX9_noHotel, 1, some .boolean, 9, 0, 0, 0, 0, [576, 70, 575, 12])
def jm_i_X9_noComer : jm_I := (yX9_noComer, cX9_noComer, 2, some .boolean, 9, 1, 0, 0, 0, [517, 70, 516, 10])
def jm_i_X9_noMat : jm_I := (yX9_noMat, cX9_noMat, 2, some .boolean, 9, 1, 0, 0, 0, [558, 70, 557, 11])
def jm_i_X9_found : jm_I := (yX9_found, cX9_found, 2, some .int, 9, 1, 0, 0, 0, [368, 70, 367, 0])
def jm_i_X9_unfound : jm_I := (yX9_unfound, cX9_unfound, 2, some .int, 9, 1, 0, 0, 0, [377, 70, 376, 1])
def jm_i_X9_matRowFinding : jm_I := (yX9_matRowFinding, cX9_matRowFinding, 3, some .int, 9, 2, 0, 0, 0, [747, 70, 746, 18])
def jm_i_X10_init : jm_I := (yX10_init, cX10_init, 1, none, 10, 0, 2, 9, 2202, [902, 80, 901])
def jm_i_X10_in : jm_I := (yX10_in, cX10_in, 6, some .boolean, 10, 3, 1, 0, 0, [969, 80, 968])
def jm_i_X10_has : jm_I := (yX10_has, cX10_has, 2, some .boolean, 10, 2, 1, 0, 0, [1200, 80, 1199])
def jm_i_X10_bits : jm_I := (yX10_bits, cX10_bits, 3, some .int, 10, 1, 1, 0, 0, [1208, 80, 1207])
def jm_i_X10_find : jm_I := (yX10_find, cX10_find, 2, some .int, 10, 1, 0, 0, 0, [975, 80, 974, 23])
def jm_i_X10_well : jm_I := (yX10_well, cX10_well, 2, some .int, 10, 1, 0, 0, 0, [980, 80, 979, 24])
def jm_i_X10_isRow : jm_I := (yX10_isRow, cX10_isRow, 1, some .boolean, 10, 1, 1, 0, 0, [965, 80, 964])
def jm_i_X10_row : jm_I := (yX10_row, cX10_row, 5, some .int, 10, 3, 0, 0, 0, [962, 80, 960, 961])
def jm_i_X10_narrow : jm_I := (yX10_narrow, cX10_narrow, 2, some .int, 10, 2, 1, 0, 0, [987, 80, 986])
def jm_i_X10_set : jm_I := (yX10_set, cX10_set, 4, some .int, 10, 3, 0, 0, 0, [984, 80, 982, 983])
def jm_i_X10_isSpan : jm_I := (yX10_isSpan, cX10_isSpan, 4, some .boolean, 10, 3, 0, 0, 0, [995, 80, 994, 25])
def jm_i_X10_copy : jm_I := (yX10_copy, cX10_copy, 9, some .int, 10, 5, 0, 0, 0, [991, 80, 989, 990])
def jm_i_X10_drop : jm_I := (yX10_drop, cX10_drop, 3, some .int, 10, 1, 0, 0, 0, [999, 80, 997, 998])
def jm_i_X10_feed : jm_I := (yX10_feed, cX10_feed, 2, some .int, 10, 1, 0, 0, 0, [1003, 80, 1001, 1002])
def jm_i_X10_isLetter : jm_I := (yX10_isLetter, cX10_isLetter, 2, some .boolean, 10, 1, 0, 0, 0, [1025, 80, 1024, 29])
def jm_i_X10_isFigure : jm_I := (yX10_isFigure, cX10_isFigure, 2, some .boolean, 10, 1, 0, 0, 0, [1037, 80, 1036, 32])
def jm_i_X10_refuse : jm_I := (yX10_refuse, cX10_refuse, 2, some .boolean, 10, 1, 0, 0, 0, [1029, 80, 1028, 30])
def jm_i_X10_sign : jm_I := (yX10_sign, cX10_sign, 2, some .boolean, 10, 1, 0, 0, 0, [1021, 80, 1020, 28])
def jm_i_X10_readsNumber : jm_I := (yX10_readsNumber, cX10_readsNumber, 4, some .boolean, 10, 2, 0, 0, 0, [1033, 80, 1032, 31])
def jm_i_X10_readsLaw : jm_I := (yX10_readsLaw, cX10_readsLaw, 1, some .boolean, 10, 0, 0, 0, 0, [1017, 80, 1016, 27])
def jm_i_X10_readsMat : jm_I := (yX10_readsMat, cX10_readsMat, 2, some .boolean, 10, 0, 0, 0, 0, [1043, 80, 1042, 33])
def jm_i_X10_kindOfLetter : jm_I := (yX10_kindOfLetter, cX10_kindOfLetter, 1, some .int, 10, 1, 1, 0, 0, [1050, 80, 1049])
def jm_i_X10_readsComer : jm_I := (yX10_readsComer, cX10_readsComer, 2, some .boolean, 10, 0, 0, 0, 0, [1054, 80, 1053, 35])
def jm_i_X10_isSort : jm_I := (yX10_isSort, cX10_isSort, 1, some .boolean, 10, 0, 0, 0, 0, [1047, 80, 1046, 34])
def jm_i_X10_reads : jm_I := (yX10_reads, cX10_reads, 2, some .boolean, 10, 0, 0, 0, 0, [1013, 80, 1012, 26])
def jm_i_X10_hotel : jm_I := (yX10_hotel, cX10_hotel, 2, some .int, 10, 0, 0, 0, 0, [1009, 80, 1007, 1008])
def jm_i_X10_fault : jm_I := (yX10_fault, cX10_fault, 1, some .int, 10, 0, 0, 0, 0, [1063, 80, 1061, 1062])
def jm_i_X10_copyTown : jm_I := (yX10_copyTown, cX10_copyTown, 4, none, 10, 2, 0, 0, 0, [1059, 80, 1058, 36])
def jm_i_X10_keepPast : jm_I := (yX10_keepPast, cX10_keepPast, 2, none, 10, 0, 0, 0, 0, [1080, 80, 1079, 38])
def jm_i_X10_undo : jm_I := (yX10_undo, cX10_undo, 1, some .int, 10, 0, 0, 0, 0, [1067, 80, 1065, 1066])
def jm_i_X10_isComer : jm_I := (yX10_isComer, cX10_isComer, 2, some .boolean, 10, 1, 0, 0, 0, [1076, 80, 1075, 37])
def jm_i_X10_isMat : jm_I := (yX10_isMat, cX10_isMat, 2, some .boolean, 10, 1, 0, 0, 0, [1100, 80, 1099, 42])
def jm_i_X10_liesOn : jm_I := (yX10_liesOn, cX10_liesOn, 5, some .int, 10, 2, 0, 0, 0, [1092, 80, 1091, 41])
def jm_i_X10_onAll : jm_I := (yX10_onAll, cX10_onAll, 4, some .int, 10, 1, 0, 0, 0, [1249, 80, 1248, 57])
def jm_i_X10_leavesOn : jm_I := (yX10_leavesOn, cX10_leavesOn, 8, some .int, 10, 4, 0, 0, 0, [1088, 80, 1087, 40])
def jm_i_X10_comesAt : jm_I := (yX10_comesAt, cX10_comesAt, 6, some .int, 10, 2, 0, 0, 0, [1084, 80, 1083, 39])
def jm_i_X10_beatsAt : jm_I := (yX10_beatsAt, cX10_beatsAt, 5, some .int, 10, 2, 0, 0, 0, [1104, 80, 1103, 43])
def jm_i_X10_areAtOne : jm_I := (yX10_areAtOne, cX10_areAtOne, 6, some .boolean, 10, 3, 0, 0, 0, [1143, 80, 1142, 46])
def jm_i_X10_come : jm_I := (yX10_come, cX10_come, 2, some .int, 10, 1, 0, 0, 0, [1072, 80, 1070, 1071])
def jm_i_X10_beat : jm_I := (yX10_beat, cX10_beat, 2, some .int, 10, 1, 0, 0, 0, [1096, 80, 1094, 1095])
def jm_i_X10_swapPlaces : jm_I := (yX10_swapPlaces, cX10_swapPlaces, 4, none, 10, 2, 0, 0, 0, [1112, 80, 1111, 44])
def jm_i_X10_change : jm_I := (yX10_change, cX10_change, 3, some .int, 10, 1, 0, 0, 0, [1108, 80, 1106, 1107])
def jm_i_X10_rain : jm_I := (yX10_rain, cX10_rain, 5, some .int, 10, 1, 0, 0, 0, [1116, 80, 1114, 1115])
def jm_i_X10_comer : jm_I := (yX10_comer, cX10_comer, 3, some .int, 10, 2, 0, 0, 0, [1121, 80, 1119, 1120])
def jm_i_X10_masterOf : jm_I := (yX10_masterOf, cX10_masterOf, 6, some .int, 10, 1, 0, 0, 0, [1129, 80, 1128, 45])
def jm_i_X10_mat : jm_I := (yX10_mat, cX10_mat, 3, some .int, 10, 2, 0, 0, 0, [1125, 80, 1123, 1124])
def jm_i_X10_soil : jm_I := (yX10_soil, cX10_soil, 3, some .int, 10, 2, 0, 0, 0, [1134, 80, 1132, 1133])
def jm_i_X10_atOne : jm_I := (yX10_atOne, cX10_atOne, 3, some .int, 10, 2, 0, 0, 0, [1139, 80, 1137, 1138])
def jm_i_X10_layTried : jm_I := (yX10_layTried, cX10_layTried, 1, none, 10, 0, 0, 0, 0, [1155, 80, 1154, 48])
def jm_i_X10_carriesIf : jm_I := (yX10_carriesIf, cX10_carriesIf, 2, some .int, 10, 1, 0, 0, 0, [1151, 80, 1150, 47])
def jm_i_X10_leaves : jm_I := (yX10_leaves, cX10_leaves, 3, some .int, 10, 2, 0, 0, 0, [1147, 80, 1145, 1146])
def jm_i_X10_carries : jm_I := (yX10_carries, cX10_carries, 2, some .int, 10, 1, 0, 0, 0, [1159, 80, 1157, 1158])
def jm_i_X10_clean : jm_I := (yX10_clean, cX10_clean, 3, some .int, 10, 0, 0, 0, 0, [1163, 80, 1161, 1162])
def jm_i_X10_layLine : jm_I := (yX10_layLine, cX10_layLine, 3, none, 10, 1, 0, 0, 0, [1172, 80, 1171, 49])
def jm_i_X10_swapLine : jm_I := (yX10_swapLine, cX10_swapLine, 4, none, 10, 2, 0, 0, 0, [1184, 80, 1183, 52])
def jm_i_X10_takeLine : jm_I := (yX10_takeLine, cX10_takeLine, 2, none, 10, 0, 0, 0, 0, [1176, 80, 1175, 50])
def jm_i_X10_nextLine : jm_I := (yX10_nextLine, cX10_nextLine, 6, some .boolean, 10, 1, 0, 0, 0, [1180, 80, 1179, 51])
def jm_i_X10_comeAll : jm_I := (yX10_comeAll, cX10_comeAll, 4, some .int, 10, 1, 0, 0, 0, [1197, 80, 1196, 54])
def jm_i_X10_order : jm_I := (yX10_order, cX10_order, 7, some .int, 10, 1, 0, 0, 0, [1167, 80, 1165, 1166])
def jm_i_X10_layMats : jm_I := (yX10_layMats, cX10_layMats, 3, none, 10, 0, 0, 0, 0, [1193, 80, 1192, 53])
def jm_i_X10_laying : jm_I := (yX10_laying, cX10_laying, 6, some .int, 10, 1, 0, 0, 0, [1188, 80, 1186, 1187])
def jm_i_X10_beating : jm_I := (yX10_beating, cX10_beating, 7, some .int, 10, 3, 0, 0, 0, [1204, 80, 1202, 1203])
def jm_i_X10_pacts : jm_I := (yX10_pacts, cX10_pacts, 6, some .int, 10, 1, 0, 0, 0, [1212, 80, 1210, 1211])
def jm_i_X10_could : jm_I := (yX10_could, cX10_could, 5, some .int, 10, 2, 0, 0, 0, [1216, 80, 1214, 1215])
def jm_i_X10_noItems : jm_I := (yX10_noItems, cX10_noItems, 3, some .int, 10, 2, 0, 0, 0, [1224, 80, 1223, 55])
def jm_i_X10_isSo : jm_I := (yX10_isSo, cX10_isSo, 6, some .boolean, 10, 3, 0, 0, 0, [1228, 80, 1227, 56])
def jm_i_X10_who : jm_I := (yX10_who, cX10_who, 6, some .int, 10, 2, 0, 0, 0, [1220, 80, 1218, 1219])
def jm_i_X10_fits : jm_I := (yX10_fits, cX10_fits, 11, some .int, 10, 4, 0, 0, 0, [1232, 80, 1230, 1231])
def jm_i_X10_absent : jm_I := (yX10_absent, cX10_absent, 9, some .int, 10, 3, 0, 0, 0, [1236, 80, 1234, 1235])
def jm_i_X10_drawn : jm_I := (yX10_drawn, cX10_drawn, 8, some .int, 10, 3, 0, 0, 0, [1241, 80, 1239, 1240])
def jm_i_X10_image : jm_I := (yX10_image, cX10_image, 2, some .int, 10, 1, 0, 0, 0, [1253, 80, 1251, 1252])
def jm_i_X10_restore : jm_I := (yX10_restore, cX10_restore, 2, some .int, 10, 1, 0, 0, 0, [1257, 80, 1255, 1256])
def jm_i_X10_kind : jm_I := (yX10_kind, cX10_kind, 2, some .int, 10, 1, 0, 0, 0, [1261, 80, 1259, 1260])
def jm_i_X10_isOf : jm_I := (yX10_isOf, cX10_isOf, 4, some .boolean, 10, 2, 0, 0, 0, [1269, 80, 1268, 58])
def jm_i_X10_as : jm_I := (yX10_as, cX10_as, 3, some .int, 10, 2, 0, 0, 0, [1265, 80, 1263, 1264])
def jm_i_X10_begin : jm_I := (yX10_begin, cX10_begin, 2, none, 10, 1, 0, 0, 0, [1281, 80, 1280, 60])
def jm_i_X10_lentSize : jm_I := (yX10_lentSize, cX10_lentSize, 2, some .int, 10, 1, 0, 0, 0, [1289, 80, 1288, 62])
def jm_i_X10_wiperSize : jm_I := (yX10_wiperSize, cX10_wiperSize, 3, some .int, 10, 1, 0, 0, 0, [1285, 80, 1284, 61])
def jm_i_X10_stamperSize : jm_I := (yX10_stamperSize, cX10_stamperSize, 2, some .int, 10, 1, 0, 0, 0, [1305, 80, 1304, 66])
def jm_i_X10_sizeOf : jm_I := (yX10_sizeOf, cX10_sizeOf, 2, some .int, 10, 1, 0, 0, 0, [1277, 80, 1276, 59])
def jm_i_X10_lentMark : jm_I := (yX10_lentMark, cX10_lentMark, 2, some .int, 10, 1, 0, 0, 0, [1301, 80, 1300, 65])
def jm_i_X10_wiperMark : jm_I := (yX10_wiperMark, cX10_wiperMark, 2, some .int, 10, 1, 0, 0, 0, [1297, 80, 1296, 64])
def jm_i_X10_mark : jm_I := (yX10_mark, cX10_mark, 2, some .int, 10, 1, 0, 0, 0, [1293, 80, 1292, 63])
def jm_i_X10_stamperMark : jm_I := (yX10_stamperMark, cX10_stamperMark, 3, some .int, 10, 1, 0, 0, 0, [1309, 80, 1308, 67])
def jm_i_X10_ask : jm_I := (yX10_ask, cX10_ask, 3, some .int, 10, 2, 0, 0, 0, [1273, 80, 1271, 1272])
def jm_i_X10_trace : jm_I := (yX10_trace, cX10_trace, 2, some .int, 10, 1, 0, 0, 0, [1313, 80, 1311, 1312])
def jm_i_X10_comings : jm_I := (yX10_comings, cX10_comings, 3, some .int, 10, 0, 0, 0, 0, [1321, 80, 1320, 68])
def jm_i_X10_count : jm_I := (yX10_count, cX10_count, 4, some .int, 10, 1, 0, 0, 0, [1317, 80, 1315, 1316])
def jm_i_X10_status : jm_I := (yX10_status, cX10_status, 1, some .int, 10, 0, 0, 0, 0, [1325, 80, 1323, 1324])
def jm_i_J6_bitCount_0f7a4 : jm_I := (yJ6_bitCount_0f7a4, cJ6_bitCount_0f7a4, 1, some .int, 12, 1, 1, 0, 0, [704, 83, 703])
def jm_i_L_law : jm_I := (yL_law, cL_law, 4, some .boolean, 11, 1, 1, 0, 0, [])
def jm_mi : List jm_I := [jm_i_X0_init, jm_i_X0_answer, jm_i_X0_traced, jm_i_X0_bodyOf, jm_i_X0_leaveTrace, jm_i_X0_give, jm_i_X1_init, jm_i_X1_takeOver, jm_i_X1_wipes, jm_i_X1_isOf, jm_i_X2_init, jm_i_X2_cleanOnes, jm_i_X2_told, jm_i_X2_seekOrder, jm_i_X2_tryOrders, jm_i_X2_seekLaying, jm_i_X2_tryLayings, jm_i_X2_keepTried, jm_i_X2_fewestBeaten, jm_i_X2_carriedIfBeaten, jm_i_X2_uniters, jm_i_X2_bindsTo, jm_i_X2_culprits, jm_i_X2_tryAs, jm_i_X2_fitting, jm_i_X2_giveTrait, jm_i_X2_isSoBehind, jm_i_X2_likelihood, jm_i_X2_weight, jm_i_X2_commonDivisor, jm_i_X2_years, jm_i_X3_init, jm_i_X3_isEmpty, jm_i_X3_size, jm_i_X3_forget, jm_i_X3_keep, jm_i_X3_takeBack, jm_i_X4_init, jm_i_X4_clear, jm_i_X4_takeOver, jm_i_X4_writeCells, jm_i_X4_readCells, jm_i_X4_allComers, jm_i_X4_receive, jm_i_X4_swapWithNext, jm_i_X4_rainOnAll, jm_i_X4_areAtOne, jm_i_X4_pactCount, jm_i_X4_firstPact, jm_i_X4_lyingInAll, jm_i_X4_comings, jm_i_X5_init, jm_i_X5_lying, jm_i_X5_master, jm_i_X5_empty, jm_i_X5_takeOver, jm_i_X6_init, jm_i_X6_isFull, jm_i_X6_size, jm_i_X6_append, jm_i_X6_place, jm_i_X6_readInto, jm_i_X6_readLaw, jm_i_X6_readMats, jm_i_X6_readComers, jm_i_X6_readTraits, jm_i_X6_sortOf, jm_i_X6_seen, jm_i_X6_refuse, jm_i_X6_takeByte, jm_i_X6_takeNumber, jm_i_X6_isFigure, jm_i_X7_init, jm_i_X7_isMissing, jm_i_X7_sameLane, jm_i_X7_reaches, jm_i_X7_item, jm_i_X7_make, jm_i_X7_put, jm_i_X7_carryOver, jm_i_X7_remove, jm_i_X7_present, jm_i_X8_init, jm_i_X8_begin, jm_i_X8_goOver, jm_i_X8_allGoOver, jm_i_X8_lyingInAll, jm_i_X9_init, jm_i_X9_row, jm_i_X9_set, jm_i_X9_copy, jm_i_X9_drop, jm_i_X9_feed, jm_i_X9_hotel, jm_i_X9_fault, jm_i_X9_come, jm_i_X9_beat, jm_i_X9_change, jm_i_X9_rain, jm_i_X9_undo, jm_i_X9_comer, jm_i_X9_mat, jm_i_X9_soil, jm_i_X9_atOne, jm_i_X9_leaves, jm_i_X9_carries, jm_i_X9_clean, jm_i_X9_order, jm_i_X9_laying, jm_i_X9_beating, jm_i_X9_pacts, jm_i_X9_could, jm_i_X9_who, jm_i_X9_fits, jm_i_X9_absent, jm_i_X9_drawn, jm_i_X9_image, jm_i_X9_restore, jm_i_X9_kind, jm_i_X9_as, jm_i_X9_ask, jm_i_X9_trace, jm_i_X9_count, jm_i_X9_status, jm_i_X9_noRow, jm_i_X9_noImage, jm_i_X9_noCarried, jm_i_X9_neither, jm_i_X9_noHotel, jm_i_X9_noComer, jm_i_X9_noMat, jm_i_X9_found, jm_i_X9_unfound, jm_i_X9_matRowFinding, jm_i_X10_init, jm_i_X10_in, jm_i_X10_has, jm_i_X10_bits, jm_i_X10_find, jm_i_X10_well, jm_i_X10_isRow, jm_i_X10_row, jm_i_X10_narrow, jm_i_X10_set, jm_i_X10_isSpan, jm_i_X10_copy, jm_i_X10_drop, jm_i_X10_feed, jm_i_X10_isLetter, jm_i_X10_isFigure, jm_i_X10_refuse, jm_i_X10_sign, jm_i_X10_readsNumber, jm_i_X10_readsLaw, jm_i_X10_readsMat, jm_i_X10_kindOfLetter, jm_i_X10_readsComer, jm_i_X10_isSort, jm_i_X10_reads, jm_i_X10_hotel, jm_i_X10_fault, jm_i_X10_copyTown, jm_i_X10_keepPast, jm_i_X10_undo, jm_i_X10_isComer, jm_i_X10_isMat, jm_i_X10_liesOn, jm_i_X10_onAll, jm_i_X10_leavesOn, jm_i_X10_comesAt, jm_i_X10_beatsAt, jm_i_X10_areAtOne, jm_i_X10_come, jm_i_X10_beat, jm_i_X10_swapPlaces, jm_i_X10_change, jm_i_X10_rain, jm_i_X10_comer, jm_i_X10_masterOf, jm_i_X10_mat, jm_i_X10_soil, jm_i_X10_atOne, jm_i_X10_layTried, jm_i_X10_carriesIf, jm_i_X10_leaves, jm_i_X10_carries, jm_i_X10_clean, jm_i_X10_layLine, jm_i_X10_swapLine, jm_i_X10_takeLine, jm_i_X10_nextLine, jm_i_X10_comeAll, jm_i_X10_order, jm_i_X10_layMats, jm_i_X10_laying, jm_i_X10_beating, jm_i_X10_pacts, jm_i_X10_could, jm_i_X10_noItems, jm_i_X10_isSo, jm_i_X10_who, jm_i_X10_fits, jm_i_X10_absent, jm_i_X10_drawn, jm_i_X10_image, jm_i_X10_restore, jm_i_X10_kind, jm_i_X10_isOf, jm_i_X10_as, jm_i_X10_begin, jm_i_X10_lentSize, jm_i_X10_wiperSize, jm_i_X10_stamperSize, jm_i_X10_sizeOf, jm_i_X10_lentMark, jm_i_X10_wiperMark, jm_i_X10_mark, jm_i_X10_stamperMark, jm_i_X10_ask, jm_i_X10_trace, jm_i_X10_comings, jm_i_X10_count, jm_i_X10_status, jm_i_J6_bitCount_0f7a4, jm_i_L_law]
def jm_fl : List (Nat × Nat × Nat × Nat × Nat) := [(7, 9, 7, 0, 98), (7, 13, 7, 1, 99), (7, 16, 7, 2, 100), (6, 11, 6, 0, 115), (6, 15, 6, 1, 116), (6, 19, 6, 2, 117), (6, 22, 6, 3, 118), (8, 41, 5, 0, 143), (4, 51, 5, 0, 144), (5, 16, 5, 0, 145), (6, 68, 5, 0, 146), (9, 176, 5, 0, 147), (2, 113, 5, 0, 148), (5, 9, 5, 1, 149), (4, 54, 5, 1, 150), (2, 121, 5, 1, 151), (9, 207, 5, 1, 152), (1, 9, 1, 0, 163), (0, 28, 1, 0, 164), (6, 84, 1, 0, 165), (2, 144, 1, 0, 166), (9, 293, 1, 0, 167), (1, 15, 1, 1, 168), (8, 32, 1, 1, 169), (4, 64, 1, 1, 170), (0, 43, 1, 1, 171), (6, 93, 1, 1, 172), (9, 192, 1, 1, 173), (2, 147, 1, 1, 174), (1, 18, 1, 2, 175), (4, 76, 1, 2, 176), (6, 96, 1, 2, 177), (2, 102, 1, 2, 178), (9, 195, 1, 2, 179), (1, 21, 1, 3, 180), (6, 99, 1, 3, 181), (9, 198, 1, 3, 182), (2, 149, 1, 3, 183), (1, 24, 1, 4, 184), (4, 41, 1, 4, 185), (0, 46, 1, 4, 186), (9, 145, 1, 4, 187), (4, 25, 4, 0, 199), (8, 48, 4, 0, 200), (6, 48, 4, 0, 201), (9, 201, 4, 0, 202), (4, 29, 4, 1, 203), (6, 51, 4, 1, 204), (2, 124, 4, 1, 205), (4, 32, 4, 2, 206), (8, 38, 4, 2, 207), (2, 78, 4, 2, 208), (6, 58, 4, 2, 209), (9, 236, 4, 2, 210), (2, 35, 4, 3, 211), (4, 35, 4, 3, 212), (8, 57, 4, 3, 213), (9, 135, 4, 3, 214), (6, 77, 4, 3, 215), (4, 11, 4, 4, 216), (8, 21, 4, 4, 217), (6, 64, 4, 4, 218), (9, 160, 4, 4, 219), (2, 109, 4, 4, 220), (4, 19, 4, 5, 221), (2, 45, 4, 5, 222), (8, 60, 4, 5, 223), (9, 141, 4, 5, 224), (6, 80, 4, 5, 225), (3, 11, 3, 0, 246), (3, 19, 3, 1, 247), (3, 15, 3, 2, 248), (8, 9, 8, 0, 263), (2, 81, 8, 0, 264), (8, 15, 8, 1, 265), (2, 65, 8, 1, 266), (8, 18, 8, 2, 267), (4, 79, 8, 2, 268), (2, 118, 8, 2, 269), (9, 220, 8, 2, 270), (2, 12, 2, 0, 288), (2, 21, 2, 1, 289), (2, 25, 2, 2, 290), (2, 29, 2, 3, 291), (2, 32, 2, 4, 292), (2, 53, 2, 5, 293), (0, 11, 0, 0, 313), (0, 15, 0, 1, 314), (9, 10, 9, 0, 320), (9, 19, 9, 1, 321), (9, 26, 9, 2, 322), (9, 30, 9, 3, 323), (9, 33, 9, 4, 324), (9, 37, 9, 5, 325), (9, 44, 9, 6, 326), (9, 51, 9, 7, 327), (9, 58, 9, 8, 328), (9, 65, 9, 9, 329), (9, 119, 9, 10, 330), (9, 319, 9, 11, 331), (10, 7, 10, 0, 904), (10, 133, 10, 1, 905), (10, 137, 10, 2, 906), (10, 13, 10, 3, 907), (10, 17, 10, 4, 908), (10, 20, 10, 5, 909), (10, 23, 10, 6, 910), (10, 26, 10, 7, 911), (10, 73, 10, 8, 912), (10, 125, 10, 9, 913), (10, 38, 10, 10, 914), (10, 29, 10, 11, 915), (10, 236, 10, 12, 916), (10, 77, 10, 13, 917), (10, 84, 10, 14, 918), (10, 96, 10, 15, 919), (10, 32, 10, 16, 920), (10, 35, 10, 17, 921)]
def jm_sl : List (Nat × Nat × Nat × Nat) := [(2, 135, 1, 773), (2, 138, 2, 775), (1, 27, 0, 834), (0, 33, 3, 847), (0, 36, 4, 849)]
def jm_ml : List (Nat × Nat × Nat × Nat) := [(11, 9, 87, 86), (9, 9, 72, 94), (9, 25, 37, 130), (11, 13, 88, 357), (9, 69, 124, 361), (9, 74, 131, 365), (9, 78, 77, 370), (9, 82, 132, 374), (11, 18, 89, 378), (9, 85, 73, 382), (9, 88, 75, 386), (9, 92, 78, 390), (11, 22, 90, 394), (9, 96, 74, 398), (9, 100, 79, 402), (11, 27, 91, 409), (9, 104, 80, 413), (11, 32, 92, 417), (9, 107, 57, 421), (9, 112, 59, 426), (11, 36, 93, 430), (9, 115, 61, 434), (6, 25, 38, 438), (4, 38, 54, 442), (6, 30, 62, 446), (6, 40, 69, 450), (6, 54, 67, 454), (6, 61, 68, 458), (6, 44, 70, 462), (6, 102, 71, 466), (6, 34, 63, 469), (6, 37, 64, 473), (6, 73, 66, 477), (6, 89, 65, 480), (9, 124, 60, 485), (9, 128, 39, 489), (4, 44, 55, 493), (4, 48, 7, 498), (9, 132, 34, 502), (11, 41, 94, 506), (11, 45, 95, 510), (9, 138, 129, 514), (9, 150, 35, 518), (3, 22, 40, 522), (9, 153, 43, 530), (4, 66, 83, 534), (8, 27, 52, 538), (4, 72, 84, 542), (8, 44, 8, 546), (11, 49, 96, 551), (9, 157, 130, 555), (9, 164, 52, 559), (9, 169, 54, 560), (11, 53, 97, 561), (9, 172, 44, 565), (11, 57, 98, 569), (9, 179, 128, 573), (9, 183, 45, 578), (11, 61, 99, 583), (9, 186, 32, 587), (9, 189, 36, 591), (3, 32, 41, 595), (11, 65, 100, 599), (11, 70, 101, 603), (9, 204, 53, 607), (11, 74, 102, 612), (11, 78, 103, 616), (9, 210, 46, 620), (11, 82, 104, 624), (9, 213, 83, 628), (9, 216, 84, 629), (11, 86, 105, 630), (11, 90, 106, 634), (9, 223, 11, 638), (2, 41, 83, 642), (2, 49, 84, 643), (11, 94, 107, 644), (9, 226, 13, 648), (2, 57, 14, 652), (2, 61, 17, 656), (9, 229, 12, 661), (11, 98, 108, 666), (9, 233, 15, 670), (2, 74, 16, 674), (2, 84, 42, 678), (2, 88, 85, 682), (8, 64, 84, 686), (11, 102, 109, 687), (9, 239, 42, 691), (9, 242, 126, 692), (9, 245, 127, 695), (9, 248, 18, 698), (2, 92, 223, 702), (2, 98, 19, 708), (9, 253, 223, 713), (11, 106, 110, 714), (9, 258, 47, 718), (4, 88, 46, 722), (9, 261, 48, 723), (11, 110, 111, 728), (9, 264, 20, 732), (2, 105, 21, 736), (11, 114, 112, 740), (9, 267, 133, 744), (9, 270, 22, 748), (2, 127, 26, 752), (2, 152, 76, 756), (11, 118, 113, 760), (9, 274, 23, 764), (2, 131, 7, 768), (9, 278, 24, 769), (2, 141, 25, 777), (11, 123, 114, 781), (9, 282, 27, 785), (2, 158, 28, 789), (2, 161, 29, 792), (11, 127, 115, 795), (9, 287, 30, 800), (2, 170, 86, 807), (11, 131, 116, 811), (9, 290, 125, 815), (11, 135, 117, 818), (11, 139, 118, 822), (11, 143, 119, 826), (9, 296, 9, 830), (11, 147, 120, 836), (9, 299, 1, 840), (0, 19, 3, 844), (0, 23, 5, 851), (0, 39, 4, 855), (11, 151, 121, 859), (9, 303, 2, 863), (11, 155, 122, 868), (9, 306, 81, 872), (7, 25, 73, 876), (9, 309, 49, 877), (4, 93, 52, 881), (9, 312, 50, 882), (9, 315, 33, 886), (9, 318, 58, 890), (11, 159, 123, 894), (11, 12, 134, 900), (11, 17, 141, 959), (10, 49, 140, 963), (10, 45, 135, 967), (10, 56, 138, 972), (10, 60, 139, 977), (11, 21, 143, 981), (10, 63, 142, 985), (11, 26, 145, 988), (10, 67, 144, 992), (11, 31, 146, 996), (11, 35, 147, 1000), (11, 40, 159, 1006), (10, 122, 158, 1010), (10, 109, 153, 1014), (10, 99, 151, 1018), (10, 87, 148, 1022), (10, 90, 150, 1026), (10, 102, 152, 1030), (10, 93, 149, 1034), (10, 113, 154, 1040), (10, 116, 157, 1044), (10, 106, 155, 1048), (10, 119, 156, 1051), (10, 129, 161, 1056), (11, 44, 160, 1060), (11, 64, 163, 1064), (11, 48, 172, 1069), (10, 148, 164, 1073), (10, 151, 162, 1077), (10, 154, 169, 1081), (10, 144, 168, 1085), (10, 141, 166, 1089), (11, 52, 173, 1093), (10, 157, 165, 1097), (10, 160, 170, 1101), (11, 56, 175, 1105), (10, 163, 174, 1109), (11, 60, 176, 1113), (11, 69, 177, 1118), (11, 73, 179, 1122), (10, 169, 178, 1126), (11, 77, 180, 1131), (11, 81, 181, 1136), (10, 174, 171, 1140), (11, 85, 184, 1144), (10, 180, 183, 1148), (10, 177, 182, 1152), (11, 89, 185, 1156), (11, 93, 186, 1160), (11, 97, 192, 1164), (10, 191, 187, 1169), (10, 195, 189, 1173), (10, 198, 190, 1177), (10, 183, 188, 1181), (11, 101, 194, 1185), (10, 203, 193, 1190), (10, 206, 191, 1194), (10, 186, 136, 1198), (11, 105, 195, 1201), (10, 211, 137, 1206), (11, 109, 196, 1209), (11, 113, 197, 1213), (11, 117, 200, 1217), (10, 214, 198, 1221), (10, 217, 199, 1225), (11, 122, 201, 1229), (11, 126, 202, 1233), (11, 130, 203, 1238), (10, 230, 167, 1246), (11, 134, 204, 1250), (11, 138, 205, 1254), (11, 142, 206, 1258), (11, 146, 208, 1262), (10, 233, 207, 1266), (11, 150, 218, 1270), (10, 260, 213, 1274), (10, 239, 209, 1278), (10, 248, 211, 1282), (10, 242, 210, 1286), (10, 245, 216, 1290), (10, 257, 215, 1294), (10, 254, 214, 1298), (10, 251, 212, 1302), (10, 263, 217, 1306), (11, 154, 219, 1310), (11, 158, 221, 1314), (10, 266, 220, 1318), (11, 162, 222, 1322)]
def jm_nl : List (Nat × Nat × Nat × Nat) := [(9, 18, 56, 111), (4, 23, 51, 139), (4, 24, 6, 159), (9, 43, 31, 242), (9, 50, 82, 259), (9, 57, 10, 280), (2, 11, 82, 285), (2, 20, 6, 287), (9, 64, 0, 309)]
def jm_ol : List (Nat × Nat × Nat) := [(9, 1, 89), (7, 1, 97), (6, 3, 114), (4, 3, 133), (5, 3, 142), (1, 3, 162), (3, 1, 245), (8, 3, 262), (2, 3, 283), (0, 3, 312), (10, 1, 903)]
def jm_yl : List (Nat × Nat × Nat) := [(7, 19, 406), (5, 20, 497), (4, 58, 526), (2, 68, 660)]
def jm_xl : List (Nat × Nat × Nat) := [(3, 26, 527), (8, 51, 550), (4, 82, 582)]
def jm_kl : List (Nat × Nat × Int × Nat) := [(9, 73, -1000001, 364), (9, 322, -1000010, 369), (9, 111, -1000003, 425), (9, 123, -1000100, 484), (9, 182, -1000002, 577), (5, 15, -1000000, 611), (2, 56, -1000000, 665), (12, 265, 1431655765, 705), (12, 266, 858993459, 706), (12, 267, 252645135, 707), (9, 252, -1000000, 712), (4, 92, -1000000, 727), (9, 286, 999999, 799), (0, 27, -1000000, 867), (10, 55, -1000001, 971), (10, 42, -1000010, 976), (10, 76, -1000003, 1005), (10, 128, -1000100, 1055), (10, 140, -1000002, 1068), (10, 168, -1000000, 1130)]
def jm_jl : List (Nat × Nat × Int × Nat) := [(2, 164, 16807, 804), (2, 166, 2147483647, 805), (2, 168, 7, 806), (10, 43, 7, 966), (10, 53, 2, 970), (10, 71, 255, 1004), (10, 80, 48, 1038), (10, 82, 57, 1039), (10, 166, 20, 1117), (10, 172, 5, 1135), (10, 189, -1, 1168), (10, 201, 3, 1189), (10, 209, 200, 1205), (10, 220, 10, 1237), (10, 222, 60, 1242), (10, 224, 999999, 1243), (10, 226, 16807, 1244), (10, 228, 2147483647, 1245)]
def jm_cl : List (Nat × Nat × Nat × Nat) := [(11, 7, 9, 84), (9, 7, 7, 92), (9, 16, 6, 109), (9, 23, 4, 128), (4, 9, 5, 134), (4, 17, 1, 136), (9, 41, 3, 240), (9, 48, 8, 257), (9, 55, 2, 278), (2, 9, 8, 284), (2, 18, 1, 286), (9, 62, 0, 307), (11, 10, 10, 898)]
def jm_sf : List (String × String × String) := [("MatNations$Comer", "PARENTS", "[I"), ("MatNations$Foretold", "FIRST_TRIED", "[I"), ("MatNations$Foretold", "LAST_TRIED", "[I"), ("MatNations$Asks", "SIZE_BODIES", "[I"), ("MatNations$Asks", "MARK_BODIES", "[I")]
def jm_d0 : jm_I := (⟨"", "", ""⟩, ⟨#[]⟩, 0, none, 0, 0, 0, 0, 0, [])
def jm_in (n : Nat) : jm_I := jm_mi.getD n jm_d0
def jm_y (n : Nat) : MethodName := (jm_in n).1
def jm_co (n : Nat) : ByteArray := (jm_in n).2.1
def jm_ma (n : Nat) : Nat := (jm_in n).2.2.1
def jm_re (n : Nat) : Option FieldType := (jm_in n).2.2.2.1
def jm_ow (n : Nat) : Nat := (jm_in n).2.2.2.2.1
def jm_pa (n : Nat) : Nat := (jm_in n).2.2.2.2.2.1
def jm_ki (n : Nat) : Nat := (jm_in n).2.2.2.2.2.2.1
def jm_mc (n : Nat) : Nat := (jm_in n).2.2.2.2.2.2.2.1
def jm_ms (n : Nat) : Nat := (jm_in n).2.2.2.2.2.2.2.2.1
def jm_pl (n : Nat) : List Nat := (jm_in n).2.2.2.2.2.2.2.2.2
def jm_CN (o : Nat) : String := jm_cn.getD o ""
def jm_c0 : vw_C := ("", TX0, 0)
def jm_T (c : Nat) : u_T := (vwCl.getD c jm_c0).2.1
def jm_N (c : Nat) : Nat := (vwCl.getD c jm_c0).2.2
def jm_flw (q : Nat × Nat × Nat × Nat × Nat) : Cond := .fieldLink (jm_CN q.1) q.2.1 (jm_T q.2.2.1 q.2.2.2.1).1 (jm_T q.2.2.1 q.2.2.2.1).2.1 (jm_T q.2.2.1 q.2.2.2.1).2.2.1
def jm_slw (q : Nat × Nat × Nat × Nat) : Cond := .fieldLink (jm_CN q.1) q.2.1 (jm_sf.getD q.2.2.1 ("", "", "")).1 (jm_sf.getD q.2.2.1 ("", "", "")).2.1 (jm_sf.getD q.2.2.1 ("", "", "")).2.2
def jm_mlw (q : Nat × Nat × Nat × Nat) : Cond := .methodLink (jm_CN q.1) q.2.1 (jm_y q.2.2.1)
def jm_nlw (q : Nat × Nat × Nat × Nat) : Cond := .methodLinkNest (jm_CN q.1) q.2.1 (jm_y q.2.2.1) "MatNations"
def jm_olw (q : Nat × Nat × Nat) : Cond := .methodLink (jm_CN q.1) q.2.1 objectInit
def jm_ylw (q : Nat × Nat × Nat) : Cond := .methodLink (jm_CN q.1) q.2.1 arraycopyName
def jm_xlw (q : Nat × Nat × Nat) : Cond := .methodLink (jm_CN q.1) q.2.1 Lib.Math.min.name
def jm_klw (q : Nat × Nat × Int × Nat) : Cond := .constant (jm_CN q.1) q.2.1 (Int32.ofInt q.2.2.1)
def jm_jlw (q : Nat × Nat × Int × Nat) : Cond := .constantLong (jm_CN q.1) q.2.1 (Int64.ofInt q.2.2.1)
def jm_clw (q : Nat × Nat × Nat × Nat) : Cond := .classLink (jm_CN q.1) q.2.1 (jm_CN q.2.2.1)
/-- a method's own words -/
def jm_miw (x : jm_I) : List Cond := [.code x.1 x.2.1 x.2.2.1 x.2.2.2.1, .initialized x.1.cls] ++ (if x.2.2.2.2.2.2.1 = 1 then [.static x.1] else if x.2.2.2.2.2.2.1 = 0 then [.instanceMethod x.1, .selects x.1.cls x.1 x.1] else [.instanceMethod x.1])
def jm_hw (ws : List Cond) (ps : List Nat) : Bool := decide (ps.map (fun i => lw_tbl[i]?) = ws.map some)
theorem jm_hw_in {ws : List Cond} {ps : List Nat} (h : jm_hw ws ps = true) : ∀ w ∈ ws, w ∈ lw_tbl := by
  intro w hw
  have h1 := of_decide_eq_true h
  have h2 : some w ∈ ps.map (fun i => lw_tbl[i]?) := by rw [h1]; exact List.mem_map.mpr ⟨w, hw, rfl⟩
  obtain ⟨i, -, hi⟩ := List.mem_map.mp h2
  exact List.mem_of_getElem? hi
theorem jm_fl_ok : jm_fl.all (fun q => jm_hw [jm_flw q] [q.2.2.2.2] && decide (q.2.2.2.1 < jm_N q.2.2.1)) = true := by decide +kernel
theorem jm_sl_ok : jm_sl.all (fun q => jm_hw [jm_slw q] [q.2.2.2]) = true := by decide +kernel
theorem jm_ml_ok : jm_ml.all (fun q => jm_hw [jm_mlw q] [q.2.2.2]) = true := by decide +kernel
theorem jm_nl_ok : jm_nl.all (fun q => jm_hw [jm_nlw q] [q.2.2.2]) = true := by decide +kernel
theorem jm_ol_ok : jm_ol.all (fun q => jm_hw [jm_olw q] [q.2.2]) = true := by decide +kernel
theorem jm_yl_ok : jm_yl.all (fun q => jm_hw [jm_ylw q] [q.2.2]) = true := by decide +kernel
theorem jm_xl_ok : jm_xl.all (fun q => jm_hw [jm_xlw q] [q.2.2]) = true := by decide +kernel
theorem jm_kl_ok : jm_kl.all (fun q => jm_hw [jm_klw q] [q.2.2.2]) = true := by decide +kernel
theorem jm_jl_ok : jm_jl.all (fun q => jm_hw [jm_jlw q] [q.2.2.2]) = true := by decide +kernel
theorem jm_cl_ok : jm_cl.all (fun q => jm_hw [jm_clw q] [q.2.2.2]) = true := by decide +kernel
theorem jm_o_X0_init : jm_hw (jm_miw jm_i_X0_init) (jm_i_X0_init.2.2.2.2.2.2.2.2.2) = true := by decide +kernel
theorem jm_o_X0_answer : jm_hw (jm_miw jm_i_X0_answer) (jm_i_X0_answer.2.2.2.2.2.2.2.2.2) = true := by decide +kernel
theorem jm_o_X0_traced : jm_hw (jm_miw jm_i_X0_traced) (jm_i_X0_traced.2.2.2.2.2.2.2.2.2) = true := by decide +kernel
theorem jm_o_X0_bodyOf : jm_hw (jm_miw jm_i_X0_bodyOf) (jm_i_X0_bodyOf.2.2.2.2.2.2.2.2.2) = true := by decide +kernel
theorem jm_o_X0_leaveTrace : jm_hw (jm_miw jm_i_X0_leaveTrace) (jm_i_X0_leaveTrace.2.2.2.2.2.2.2.2.2) = true := by decide +kernel
theorem jm_o_X0_give : jm_hw (jm_miw jm_i_X0_give) (jm_i_X0_give.2.2.2.2.2.2.2.2.2) = true := by decide +kernel
theorem jm_o_X1_init : jm_hw (jm_miw jm_i_X1_init) (jm_i_X1_init.2.2.2.2.2.2.2.2.2) = true := by decide +kernel
theorem jm_o_X1_takeOver : jm_hw (jm_miw jm_i_X1_takeOver) (jm_i_X1_takeOver.2.2.2.2.2.2.2.2.2) = true := by decide +kernel
theorem jm_o_X1_wipes : jm_hw (jm_miw jm_i_X1_wipes) (jm_i_X1_wipes.2.2.2.2.2.2.2.2.2) = true := by decide +kernel
theorem jm_o_X1_isOf : jm_hw (jm_miw jm_i_X1_isOf) (jm_i_X1_isOf.2.2.2.2.2.2.2.2.2) = true := by decide +kernel
theorem jm_o_X2_init : jm_hw (jm_miw jm_i_X2_init) (jm_i_X2_init.2.2.2.2.2.2.2.2.2) = true := by decide +kernel
theorem jm_o_X2_cleanOnes : jm_hw (jm_miw jm_i_X2_cleanOnes) (jm_i_X2_cleanOnes.2.2.2.2.2.2.2.2.2) = true := by decide +kernel
theorem jm_o_X2_told : jm_hw (jm_miw jm_i_X2_told) (jm_i_X2_told.2.2.2.2.2.2.2.2.2) = true := by decide +kernel
theorem jm_o_X2_seekOrder : jm_hw (jm_miw jm_i_X2_seekOrder) (jm_i_X2_seekOrder.2.2.2.2.2.2.2.2.2) = true := by decide +kernel
theorem jm_o_X2_tryOrders : jm_hw (jm_miw jm_i_X2_tryOrders) (jm_i_X2_tryOrders.2.2.2.2.2.2.2.2.2) = true := by decide +kernel
theorem jm_o_X2_seekLaying : jm_hw (jm_miw jm_i_X2_seekLaying) (jm_i_X2_seekLaying.2.2.2.2.2.2.2.2.2) = true := by decide +kernel
theorem jm_o_X2_tryLayings : jm_hw (jm_miw jm_i_X2_tryLayings) (jm_i_X2_tryLayings.2.2.2.2.2.2.2.2.2) = true := by decide +kernel
theorem jm_o_X2_keepTried : jm_hw (jm_miw jm_i_X2_keepTried) (jm_i_X2_keepTried.2.2.2.2.2.2.2.2.2) = true := by decide +kernel
theorem jm_o_X2_fewestBeaten : jm_hw (jm_miw jm_i_X2_fewestBeaten) (jm_i_X2_fewestBeaten.2.2.2.2.2.2.2.2.2) = true := by decide +kernel
theorem jm_o_X2_carriedIfBeaten : jm_hw (jm_miw jm_i_X2_carriedIfBeaten) (jm_i_X2_carriedIfBeaten.2.2.2.2.2.2.2.2.2) = true := by decide +kernel
theorem jm_o_X2_uniters : jm_hw (jm_miw jm_i_X2_uniters) (jm_i_X2_uniters.2.2.2.2.2.2.2.2.2) = true := by decide +kernel
theorem jm_o_X2_bindsTo : jm_hw (jm_miw jm_i_X2_bindsTo) (jm_i_X2_bindsTo.2.2.2.2.2.2.2.2.2) = true := by decide +kernel
theorem jm_o_X2_culprits : jm_hw (jm_miw jm_i_X2_culprits) (jm_i_X2_culprits.2.2.2.2.2.2.2.2.2) = true := by decide +kernel
theorem jm_o_X2_tryAs : jm_hw (jm_miw jm_i_X2_tryAs) (jm_i_X2_tryAs.2.2.2.2.2.2.2.2.2) = true := by decide +kernel
theorem jm_o_X2_fitting : jm_hw (jm_miw jm_i_X2_fitting) (jm_i_X2_fitting.2.2.2.2.2.2.2.2.2) = true := by decide +kernel
theorem jm_o_X2_giveTrait : jm_hw (jm_miw jm_i_X2_giveTrait) (jm_i_X2_giveTrait.2.2.2.2.2.2.2.2.2) = true := by decide +kernel
theorem jm_o_X2_isSoBehind : jm_hw (jm_miw jm_i_X2_isSoBehind) (jm_i_X2_isSoBehind.2.2.2.2.2.2.2.2.2) = true := by decide +kernel
theorem jm_o_X2_likelihood : jm_hw (jm_miw jm_i_X2_likelihood) (jm_i_X2_likelihood.2.2.2.2.2.2.2.2.2) = true := by decide +kernel
theorem jm_o_X2_weight : jm_hw (jm_miw jm_i_X2_weight) (jm_i_X2_weight.2.2.2.2.2.2.2.2.2) = true := by decide +kernel
theorem jm_o_X2_commonDivisor : jm_hw (jm_miw jm_i_X2_commonDivisor) (jm_i_X2_commonDivisor.2.2.2.2.2.2.2.2.2) = true := by decide +kernel
theorem jm_o_X2_years : jm_hw (jm_miw jm_i_X2_years) (jm_i_X2_years.2.2.2.2.2.2.2.2.2) = true := by decide +kernel
theorem jm_o_X3_init : jm_hw (jm_miw jm_i_X3_init) (jm_i_X3_init.2.2.2.2.2.2.2.2.2) = true := by decide +kernel
theorem jm_o_X3_isEmpty : jm_hw (jm_miw jm_i_X3_isEmpty) (jm_i_X3_isEmpty.2.2.2.2.2.2.2.2.2) = true := by decide +kernel
theorem jm_o_X3_size : jm_hw (jm_miw jm_i_X3_size) (jm_i_X3_size.2.2.2.2.2.2.2.2.2) = true := by decide +kernel
theorem jm_o_X3_forget : jm_hw (jm_miw jm_i_X3_forget) (jm_i_X3_forget.2.2.2.2.2.2.2.2.2) = true := by decide +kernel
theorem jm_o_X3_keep : jm_hw (jm_miw jm_i_X3_keep) (jm_i_X3_keep.2.2.2.2.2.2.2.2.2) = true := by decide +kernel
theorem jm_o_X3_takeBack : jm_hw (jm_miw jm_i_X3_takeBack) (jm_i_X3_takeBack.2.2.2.2.2.2.2.2.2) = true := by decide +kernel
theorem jm_o_X4_init : jm_hw (jm_miw jm_i_X4_init) (jm_i_X4_init.2.2.2.2.2.2.2.2.2) = true := by decide +kernel
theorem jm_o_X4_clear : jm_hw (jm_miw jm_i_X4_clear) (jm_i_X4_clear.2.2.2.2.2.2.2.2.2) = true := by decide +kernel
theorem jm_o_X4_takeOver : jm_hw (jm_miw jm_i_X4_takeOver) (jm_i_X4_takeOver.2.2.2.2.2.2.2.2.2) = true := by decide +kernel
theorem jm_o_X4_writeCells : jm_hw (jm_miw jm_i_X4_writeCells) (jm_i_X4_writeCells.2.2.2.2.2.2.2.2.2) = true := by decide +kernel
theorem jm_o_X4_readCells : jm_hw (jm_miw jm_i_X4_readCells) (jm_i_X4_readCells.2.2.2.2.2.2.2.2.2) = true := by decide +kernel
theorem jm_o_X4_allComers : jm_hw (jm_miw jm_i_X4_allComers) (jm_i_X4_allComers.2.2.2.2.2.2.2.2.2) = true := by decide +kernel
theorem jm_o_X4_receive : jm_hw (jm_miw jm_i_X4_receive) (jm_i_X4_receive.2.2.2.2.2.2.2.2.2) = true := by decide +kernel
theorem jm_o_X4_swapWithNext : jm_hw (jm_miw jm_i_X4_swapWithNext) (jm_i_X4_swapWithNext.2.2.2.2.2.2.2.2.2) = true := by decide +kernel
theorem jm_o_X4_rainOnAll : jm_hw (jm_miw jm_i_X4_rainOnAll) (jm_i_X4_rainOnAll.2.2.2.2.2.2.2.2.2) = true := by decide +kernel
theorem jm_o_X4_areAtOne : jm_hw (jm_miw jm_i_X4_areAtOne) (jm_i_X4_areAtOne.2.2.2.2.2.2.2.2.2) = true := by decide +kernel
theorem jm_o_X4_pactCount : jm_hw (jm_miw jm_i_X4_pactCount) (jm_i_X4_pactCount.2.2.2.2.2.2.2.2.2) = true := by decide +kernel
theorem jm_o_X4_firstPact : jm_hw (jm_miw jm_i_X4_firstPact) (jm_i_X4_firstPact.2.2.2.2.2.2.2.2.2) = true := by decide +kernel
theorem jm_o_X4_lyingInAll : jm_hw (jm_miw jm_i_X4_lyingInAll) (jm_i_X4_lyingInAll.2.2.2.2.2.2.2.2.2) = true := by decide +kernel
theorem jm_o_X4_comings : jm_hw (jm_miw jm_i_X4_comings) (jm_i_X4_comings.2.2.2.2.2.2.2.2.2) = true := by decide +kernel
theorem jm_o_X5_init : jm_hw (jm_miw jm_i_X5_init) (jm_i_X5_init.2.2.2.2.2.2.2.2.2) = true := by decide +kernel
theorem jm_o_X5_lying : jm_hw (jm_miw jm_i_X5_lying) (jm_i_X5_lying.2.2.2.2.2.2.2.2.2) = true := by decide +kernel
theorem jm_o_X5_master : jm_hw (jm_miw jm_i_X5_master) (jm_i_X5_master.2.2.2.2.2.2.2.2.2) = true := by decide +kernel
theorem jm_o_X5_empty : jm_hw (jm_miw jm_i_X5_empty) (jm_i_X5_empty.2.2.2.2.2.2.2.2.2) = true := by decide +kernel
theorem jm_o_X5_takeOver : jm_hw (jm_miw jm_i_X5_takeOver) (jm_i_X5_takeOver.2.2.2.2.2.2.2.2.2) = true := by decide +kernel
theorem jm_o_X6_init : jm_hw (jm_miw jm_i_X6_init) (jm_i_X6_init.2.2.2.2.2.2.2.2.2) = true := by decide +kernel
theorem jm_o_X6_isFull : jm_hw (jm_miw jm_i_X6_isFull) (jm_i_X6_isFull.2.2.2.2.2.2.2.2.2) = true := by decide +kernel
theorem jm_o_X6_size : jm_hw (jm_miw jm_i_X6_size) (jm_i_X6_size.2.2.2.2.2.2.2.2.2) = true := by decide +kernel
theorem jm_o_X6_append : jm_hw (jm_miw jm_i_X6_append) (jm_i_X6_append.2.2.2.2.2.2.2.2.2) = true := by decide +kernel
theorem jm_o_X6_place : jm_hw (jm_miw jm_i_X6_place) (jm_i_X6_place.2.2.2.2.2.2.2.2.2) = true := by decide +kernel
theorem jm_o_X6_readInto : jm_hw (jm_miw jm_i_X6_readInto) (jm_i_X6_readInto.2.2.2.2.2.2.2.2.2) = true := by decide +kernel
theorem jm_o_X6_readLaw : jm_hw (jm_miw jm_i_X6_readLaw) (jm_i_X6_readLaw.2.2.2.2.2.2.2.2.2) = true := by decide +kernel
theorem jm_o_X6_readMats : jm_hw (jm_miw jm_i_X6_readMats) (jm_i_X6_readMats.2.2.2.2.2.2.2.2.2) = true := by decide +kernel
theorem jm_o_X6_readComers : jm_hw (jm_miw jm_i_X6_readComers) (jm_i_X6_readComers.2.2.2.2.2.2.2.2.2) = true := by decide +kernel
theorem jm_o_X6_readTraits : jm_hw (jm_miw jm_i_X6_readTraits) (jm_i_X6_readTraits.2.2.2.2.2.2.2.2.2) = true := by decide +kernel
theorem jm_o_X6_sortOf : jm_hw (jm_miw jm_i_X6_sortOf) (jm_i_X6_sortOf.2.2.2.2.2.2.2.2.2) = true := by decide +kernel
theorem jm_o_X6_seen : jm_hw (jm_miw jm_i_X6_seen) (jm_i_X6_seen.2.2.2.2.2.2.2.2.2) = true := by decide +kernel
theorem jm_o_X6_refuse : jm_hw (jm_miw jm_i_X6_refuse) (jm_i_X6_refuse.2.2.2.2.2.2.2.2.2) = true := by decide +kernel
theorem jm_o_X6_takeByte : jm_hw (jm_miw jm_i_X6_takeByte) (jm_i_X6_takeByte.2.2.2.2.2.2.2.2.2) = true := by decide +kernel
theorem jm_o_X6_takeNumber : jm_hw (jm_miw jm_i_X6_takeNumber) (jm_i_X6_takeNumber.2.2.2.2.2.2.2.2.2) = true := by decide +kernel
theorem jm_o_X6_isFigure : jm_hw (jm_miw jm_i_X6_isFigure) (jm_i_X6_isFigure.2.2.2.2.2.2.2.2.2) = true := by decide +kernel
theorem jm_o_X7_init : jm_hw (jm_miw jm_i_X7_init) (jm_i_X7_init.2.2.2.2.2.2.2.2.2) = true := by decide +kernel
theorem jm_o_X7_isMissing : jm_hw (jm_miw jm_i_X7_isMissing) (jm_i_X7_isMissing.2.2.2.2.2.2.2.2.2) = true := by decide +kernel
theorem jm_o_X7_sameLane : jm_hw (jm_miw jm_i_X7_sameLane) (jm_i_X7_sameLane.2.2.2.2.2.2.2.2.2) = true := by decide +kernel
theorem jm_o_X7_reaches : jm_hw (jm_miw jm_i_X7_reaches) (jm_i_X7_reaches.2.2.2.2.2.2.2.2.2) = true := by decide +kernel
theorem jm_o_X7_item : jm_hw (jm_miw jm_i_X7_item) (jm_i_X7_item.2.2.2.2.2.2.2.2.2) = true := by decide +kernel
theorem jm_o_X7_make : jm_hw (jm_miw jm_i_X7_make) (jm_i_X7_make.2.2.2.2.2.2.2.2.2) = true := by decide +kernel
theorem jm_o_X7_put : jm_hw (jm_miw jm_i_X7_put) (jm_i_X7_put.2.2.2.2.2.2.2.2.2) = true := by decide +kernel
theorem jm_o_X7_carryOver : jm_hw (jm_miw jm_i_X7_carryOver) (jm_i_X7_carryOver.2.2.2.2.2.2.2.2.2) = true := by decide +kernel
theorem jm_o_X7_remove : jm_hw (jm_miw jm_i_X7_remove) (jm_i_X7_remove.2.2.2.2.2.2.2.2.2) = true := by decide +kernel
theorem jm_o_X7_present : jm_hw (jm_miw jm_i_X7_present) (jm_i_X7_present.2.2.2.2.2.2.2.2.2) = true := by decide +kernel
theorem jm_o_X8_init : jm_hw (jm_miw jm_i_X8_init) (jm_i_X8_init.2.2.2.2.2.2.2.2.2) = true := by decide +kernel
theorem jm_o_X8_begin : jm_hw (jm_miw jm_i_X8_begin) (jm_i_X8_begin.2.2.2.2.2.2.2.2.2) = true := by decide +kernel
theorem jm_o_X8_goOver : jm_hw (jm_miw jm_i_X8_goOver) (jm_i_X8_goOver.2.2.2.2.2.2.2.2.2) = true := by decide +kernel
theorem jm_o_X8_allGoOver : jm_hw (jm_miw jm_i_X8_allGoOver) (jm_i_X8_allGoOver.2.2.2.2.2.2.2.2.2) = true := by decide +kernel
theorem jm_o_X8_lyingInAll : jm_hw (jm_miw jm_i_X8_lyingInAll) (jm_i_X8_lyingInAll.2.2.2.2.2.2.2.2.2) = true := by decide +kernel
theorem jm_o_X9_init : jm_hw (jm_miw jm_i_X9_init) (jm_i_X9_init.2.2.2.2.2.2.2.2.2) = true := by decide +kernel
theorem jm_o_X9_row : jm_hw (jm_miw jm_i_X9_row) (jm_i_X9_row.2.2.2.2.2.2.2.2.2) = true := by decide +kernel
theorem jm_o_X9_set : jm_hw (jm_miw jm_i_X9_set) (jm_i_X9_set.2.2.2.2.2.2.2.2.2) = true := by decide +kernel
theorem jm_o_X9_copy : jm_hw (jm_miw jm_i_X9_copy) (jm_i_X9_copy.2.2.2.2.2.2.2.2.2) = true := by decide +kernel
theorem jm_o_X9_drop : jm_hw (jm_miw jm_i_X9_drop) (jm_i_X9_drop.2.2.2.2.2.2.2.2.2) = true := by decide +kernel
theorem jm_o_X9_feed : jm_hw (jm_miw jm_i_X9_feed) (jm_i_X9_feed.2.2.2.2.2.2.2.2.2) = true := by decide +kernel
theorem jm_o_X9_hotel : jm_hw (jm_miw jm_i_X9_hotel) (jm_i_X9_hotel.2.2.2.2.2.2.2.2.2) = true := by decide +kernel
theorem jm_o_X9_fault : jm_hw (jm_miw jm_i_X9_fault) (jm_i_X9_fault.2.2.2.2.2.2.2.2.2) = true := by decide +kernel
theorem jm_o_X9_come : jm_hw (jm_miw jm_i_X9_come) (jm_i_X9_come.2.2.2.2.2.2.2.2.2) = true := by decide +kernel
theorem jm_o_X9_beat : jm_hw (jm_miw jm_i_X9_beat) (jm_i_X9_beat.2.2.2.2.2.2.2.2.2) = true := by decide +kernel
theorem jm_o_X9_change : jm_hw (jm_miw jm_i_X9_change) (jm_i_X9_change.2.2.2.2.2.2.2.2.2) = true := by decide +kernel
theorem jm_o_X9_rain : jm_hw (jm_miw jm_i_X9_rain) (jm_i_X9_rain.2.2.2.2.2.2.2.2.2) = true := by decide +kernel
theorem jm_o_X9_undo : jm_hw (jm_miw jm_i_X9_undo) (jm_i_X9_undo.2.2.2.2.2.2.2.2.2) = true := by decide +kernel
theorem jm_o_X9_comer : jm_hw (jm_miw jm_i_X9_comer) (jm_i_X9_comer.2.2.2.2.2.2.2.2.2) = true := by decide +kernel
theorem jm_o_X9_mat : jm_hw (jm_miw jm_i_X9_mat) (jm_i_X9_mat.2.2.2.2.2.2.2.2.2) = true := by decide +kernel
theorem jm_o_X9_soil : jm_hw (jm_miw jm_i_X9_soil) (jm_i_X9_soil.2.2.2.2.2.2.2.2.2) = true := by decide +kernel
theorem jm_o_X9_atOne : jm_hw (jm_miw jm_i_X9_atOne) (jm_i_X9_atOne.2.2.2.2.2.2.2.2.2) = true := by decide +kernel
theorem jm_o_X9_leaves : jm_hw (jm_miw jm_i_X9_leaves) (jm_i_X9_leaves.2.2.2.2.2.2.2.2.2) = true := by decide +kernel
theorem jm_o_X9_carries : jm_hw (jm_miw jm_i_X9_carries) (jm_i_X9_carries.2.2.2.2.2.2.2.2.2) = true := by decide +kernel
theorem jm_o_X9_clean : jm_hw (jm_miw jm_i_X9_clean) (jm_i_X9_clean.2.2.2.2.2.2.2.2.2) = true := by decide +kernel
theorem jm_o_X9_order : jm_hw (jm_miw jm_i_X9_order) (jm_i_X9_order.2.2.2.2.2.2.2.2.2) = true := by decide +kernel
theorem jm_o_X9_laying : jm_hw (jm_miw jm_i_X9_laying) (jm_i_X9_laying.2.2.2.2.2.2.2.2.2) = true := by decide +kernel
theorem jm_o_X9_beating : jm_hw (jm_miw jm_i_X9_beating) (jm_i_X9_beating.2.2.2.2.2.2.2.2.2) = true := by decide +kernel
theorem jm_o_X9_pacts : jm_hw (jm_miw jm_i_X9_pacts) (jm_i_X9_pacts.2.2.2.2.2.2.2.2.2) = true := by decide +kernel
theorem jm_o_X9_could : jm_hw (jm_miw jm_i_X9_could) (jm_i_X9_could.2.2.2.2.2.2.2.2.2) = true := by decide +kernel
theorem jm_o_X9_who : jm_hw (jm_miw jm_i_X9_who) (jm_i_X9_who.2.2.2.2.2.2.2.2.2) = true := by decide +kernel
theorem jm_o_X9_fits : jm_hw (jm_miw jm_i_X9_fits) (jm_i_X9_fits.2.2.2.2.2.2.2.2.2) = true := by decide +kernel
theorem jm_o_X9_absent : jm_hw (jm_miw jm_i_X9_absent) (jm_i_X9_absent.2.2.2.2.2.2.2.2.2) = true := by decide +kernel
theorem jm_o_X9_drawn : jm_hw (jm_miw jm_i_X9_drawn) (jm_i_X9_drawn.2.2.2.2.2.2.2.2.2) = true := by decide +kernel
theorem jm_o_X9_image : jm_hw (jm_miw jm_i_X9_image) (jm_i_X9_image.2.2.2.2.2.2.2.2.2) = true := by decide +kernel
theorem jm_o_X9_restore : jm_hw (jm_miw jm_i_X9_restore) (jm_i_X9_restore.2.2.2.2.2.2.2.2.2) = true := by decide +kernel
theorem jm_o_X9_kind : jm_hw (jm_miw jm_i_X9_kind) (jm_i_X9_kind.2.2.2.2.2.2.2.2.2) = true := by decide +kernel
theorem jm_o_X9_as : jm_hw (jm_miw jm_i_X9_as) (jm_i_X9_as.2.2.2.2.2.2.2.2.2) = true := by decide +kernel
theorem jm_o_X9_ask : jm_hw (jm_miw jm_i_X9_ask) (jm_i_X9_ask.2.2.2.2.2.2.2.2.2) = true := by decide +kernel
theorem jm_o_X9_trace : jm_hw (jm_miw jm_i_X9_trace) (jm_i_X9_trace.2.2.2.2.2.2.2.2.2) = true := by decide +kernel
theorem jm_o_X9_count : jm_hw (jm_miw jm_i_X9_count) (jm_i_X9_count.2.2.2.2.2.2.2.2.2) = true := by decide +kernel
theorem jm_o_X9_status : jm_hw (jm_miw jm_i_X9_status) (jm_i_X9_status.2.2.2.2.2.2.2.2.2) = true := by decide +kernel
theorem jm_o_X9_noRow : jm_hw (jm_miw jm_i_X9_noRow) (jm_i_X9_noRow.2.2.2.2.2.2.2.2.2) = true := by decide +kernel
theorem jm_o_X9_noImage : jm_hw (jm_miw jm_i_X9_noImage) (jm_i_X9_noImage.2.2.2.2.2.2.2.2.2) = true := by decide +kernel
theorem jm_o_X9_noCarried : jm_hw (jm_miw jm_i_X9_noCarried) (jm_i_X9_noCarried.2.2.2.2.2.2.2.2.2) = true := by decide +kernel
theorem jm_o_X9_neither : jm_hw (jm_miw jm_i_X9_neither) (jm_i_X9_neither.2.2.2.2.2.2.2.2.2) = true := by decide +kernel
theorem jm_o_X9_noHotel : jm_hw (jm_miw jm_i_X9_noHotel) (jm_i_X9_noHotel.2.2.2.2.2.2.2.2.2) = true := by decide +kernel
theorem jm_o_X9_noComer : jm_hw (jm_miw jm_i_X9_noComer) (jm_i_X9_noComer.2.2.2.2.2.2.2.2.2) = true := by decide +kernel
theorem jm_o_X9_noMat : jm_hw (jm_miw jm_i_X9_noMat) (jm_i_X9_noMat.2.2.2.2.2.2.2.2.2) = true := by decide +kernel
theorem jm_o_X9_found : jm_hw (jm_miw jm_i_X9_found) (jm_i_X9_found.2.2.2.2.2.2.2.2.2) = true := by decide +kernel
theorem jm_o_X9_unfound : jm_hw (jm_miw jm_i_X9_unfound) (jm_i_X9_unfound.2.2.2.2.2.2.2.2.2) = true := by decide +kernel
theorem jm_o_X9_matRowFinding : jm_hw (jm_miw jm_i_X9_matRowFinding) (jm_i_X9_matRowFinding.2.2.2.2.2.2.2.2.2) = true := by decide +kernel
theorem jm_o_X10_init : jm_hw (jm_miw jm_i_X10_init) (jm_i_X10_init.2.2.2.2.2.2.2.2.2) = true := by decide +kernel
theorem jm_o_X10_in : jm_hw (jm_miw jm_i_X10_in) (jm_i_X10_in.2.2.2.2.2.2.2.2.2) = true := by decide +kernel
theorem jm_o_X10_has : jm_hw (jm_miw jm_i_X10_has) (jm_i_X10_has.2.2.2.2.2.2.2.2.2) = true := by decide +kernel
theorem jm_o_X10_bits : jm_hw (jm_miw jm_i_X10_bits) (jm_i_X10_bits.2.2.2.2.2.2.2.2.2) = true := by decide +kernel
theorem jm_o_X10_find : jm_hw (jm_miw jm_i_X10_find) (jm_i_X10_find.2.2.2.2.2.2.2.2.2) = true := by decide +kernel
theorem jm_o_X10_well : jm_hw (jm_miw jm_i_X10_well) (jm_i_X10_well.2.2.2.2.2.2.2.2.2) = true := by decide +kernel
theorem jm_o_X10_isRow : jm_hw (jm_miw jm_i_X10_isRow) (jm_i_X10_isRow.2.2.2.2.2.2.2.2.2) = true := by decide +kernel
theorem jm_o_X10_row : jm_hw (jm_miw jm_i_X10_row) (jm_i_X10_row.2.2.2.2.2.2.2.2.2) = true := by decide +kernel
theorem jm_o_X10_narrow : jm_hw (jm_miw jm_i_X10_narrow) (jm_i_X10_narrow.2.2.2.2.2.2.2.2.2) = true := by decide +kernel
theorem jm_o_X10_set : jm_hw (jm_miw jm_i_X10_set) (jm_i_X10_set.2.2.2.2.2.2.2.2.2) = true := by decide +kernel
theorem jm_o_X10_isSpan : jm_hw (jm_miw jm_i_X10_isSpan) (jm_i_X10_isSpan.2.2.2.2.2.2.2.2.2) = true := by decide +kernel
theorem jm_o_X10_copy : jm_hw (jm_miw jm_i_X10_copy) (jm_i_X10_copy.2.2.2.2.2.2.2.2.2) = true := by decide +kernel
theorem jm_o_X10_drop : jm_hw (jm_miw jm_i_X10_drop) (jm_i_X10_drop.2.2.2.2.2.2.2.2.2) = true := by decide +kernel
theorem jm_o_X10_feed : jm_hw (jm_miw jm_i_X10_feed) (jm_i_X10_feed.2.2.2.2.2.2.2.2.2) = true := by decide +kernel
theorem jm_o_X10_isLetter : jm_hw (jm_miw jm_i_X10_isLetter) (jm_i_X10_isLetter.2.2.2.2.2.2.2.2.2) = true := by decide +kernel
theorem jm_o_X10_isFigure : jm_hw (jm_miw jm_i_X10_isFigure) (jm_i_X10_isFigure.2.2.2.2.2.2.2.2.2) = true := by decide +kernel
theorem jm_o_X10_refuse : jm_hw (jm_miw jm_i_X10_refuse) (jm_i_X10_refuse.2.2.2.2.2.2.2.2.2) = true := by decide +kernel
theorem jm_o_X10_sign : jm_hw (jm_miw jm_i_X10_sign) (jm_i_X10_sign.2.2.2.2.2.2.2.2.2) = true := by decide +kernel
theorem jm_o_X10_readsNumber : jm_hw (jm_miw jm_i_X10_readsNumber) (jm_i_X10_readsNumber.2.2.2.2.2.2.2.2.2) = true := by decide +kernel
theorem jm_o_X10_readsLaw : jm_hw (jm_miw jm_i_X10_readsLaw) (jm_i_X10_readsLaw.2.2.2.2.2.2.2.2.2) = true := by decide +kernel
theorem jm_o_X10_readsMat : jm_hw (jm_miw jm_i_X10_readsMat) (jm_i_X10_readsMat.2.2.2.2.2.2.2.2.2) = true := by decide +kernel
theorem jm_o_X10_kindOfLetter : jm_hw (jm_miw jm_i_X10_kindOfLetter) (jm_i_X10_kindOfLetter.2.2.2.2.2.2.2.2.2) = true := by decide +kernel
theorem jm_o_X10_readsComer : jm_hw (jm_miw jm_i_X10_readsComer) (jm_i_X10_readsComer.2.2.2.2.2.2.2.2.2) = true := by decide +kernel
theorem jm_o_X10_isSort : jm_hw (jm_miw jm_i_X10_isSort) (jm_i_X10_isSort.2.2.2.2.2.2.2.2.2) = true := by decide +kernel
theorem jm_o_X10_reads : jm_hw (jm_miw jm_i_X10_reads) (jm_i_X10_reads.2.2.2.2.2.2.2.2.2) = true := by decide +kernel
theorem jm_o_X10_hotel : jm_hw (jm_miw jm_i_X10_hotel) (jm_i_X10_hotel.2.2.2.2.2.2.2.2.2) = true := by decide +kernel
theorem jm_o_X10_fault : jm_hw (jm_miw jm_i_X10_fault) (jm_i_X10_fault.2.2.2.2.2.2.2.2.2) = true := by decide +kernel
theorem jm_o_X10_copyTown : jm_hw (jm_miw jm_i_X10_copyTown) (jm_i_X10_copyTown.2.2.2.2.2.2.2.2.2) = true := by decide +kernel
theorem jm_o_X10_keepPast : jm_hw (jm_miw jm_i_X10_keepPast) (jm_i_X10_keepPast.2.2.2.2.2.2.2.2.2) = true := by decide +kernel
theorem jm_o_X10_undo : jm_hw (jm_miw jm_i_X10_undo) (jm_i_X10_undo.2.2.2.2.2.2.2.2.2) = true := by decide +kernel
theorem jm_o_X10_isComer : jm_hw (jm_miw jm_i_X10_isComer) (jm_i_X10_isComer.2.2.2.2.2.2.2.2.2) = true := by decide +kernel
theorem jm_o_X10_isMat : jm_hw (jm_miw jm_i_X10_isMat) (jm_i_X10_isMat.2.2.2.2.2.2.2.2.2) = true := by decide +kernel
theorem jm_o_X10_liesOn : jm_hw (jm_miw jm_i_X10_liesOn) (jm_i_X10_liesOn.2.2.2.2.2.2.2.2.2) = true := by decide +kernel
theorem jm_o_X10_onAll : jm_hw (jm_miw jm_i_X10_onAll) (jm_i_X10_onAll.2.2.2.2.2.2.2.2.2) = true := by decide +kernel
theorem jm_o_X10_leavesOn : jm_hw (jm_miw jm_i_X10_leavesOn) (jm_i_X10_leavesOn.2.2.2.2.2.2.2.2.2) = true := by decide +kernel
theorem jm_o_X10_comesAt : jm_hw (jm_miw jm_i_X10_comesAt) (jm_i_X10_comesAt.2.2.2.2.2.2.2.2.2) = true := by decide +kernel
theorem jm_o_X10_beatsAt : jm_hw (jm_miw jm_i_X10_beatsAt) (jm_i_X10_beatsAt.2.2.2.2.2.2.2.2.2) = true := by decide +kernel
theorem jm_o_X10_areAtOne : jm_hw (jm_miw jm_i_X10_areAtOne) (jm_i_X10_areAtOne.2.2.2.2.2.2.2.2.2) = true := by decide +kernel
theorem jm_o_X10_come : jm_hw (jm_miw jm_i_X10_come) (jm_i_X10_come.2.2.2.2.2.2.2.2.2) = true := by decide +kernel
theorem jm_o_X10_beat : jm_hw (jm_miw jm_i_X10_beat) (jm_i_X10_beat.2.2.2.2.2.2.2.2.2) = true := by decide +kernel
theorem jm_o_X10_swapPlaces : jm_hw (jm_miw jm_i_X10_swapPlaces) (jm_i_X10_swapPlaces.2.2.2.2.2.2.2.2.2) = true := by decide +kernel
theorem jm_o_X10_change : jm_hw (jm_miw jm_i_X10_change) (jm_i_X10_change.2.2.2.2.2.2.2.2.2) = true := by decide +kernel
theorem jm_o_X10_rain : jm_hw (jm_miw jm_i_X10_rain) (jm_i_X10_rain.2.2.2.2.2.2.2.2.2) = true := by decide +kernel
theorem jm_o_X10_comer : jm_hw (jm_miw jm_i_X10_comer) (jm_i_X10_comer.2.2.2.2.2.2.2.2.2) = true := by decide +kernel
theorem jm_o_X10_masterOf : jm_hw (jm_miw jm_i_X10_masterOf) (jm_i_X10_masterOf.2.2.2.2.2.2.2.2.2) = true := by decide +kernel
theorem jm_o_X10_mat : jm_hw (jm_miw jm_i_X10_mat) (jm_i_X10_mat.2.2.2.2.2.2.2.2.2) = true := by decide +kernel
theorem jm_o_X10_soil : jm_hw (jm_miw jm_i_X10_soil) (jm_i_X10_soil.2.2.2.2.2.2.2.2.2) = true := by decide +kernel
theorem jm_o_X10_atOne : jm_hw (jm_miw jm_i_X10_atOne) (jm_i_X10_atOne.2.2.2.2.2.2.2.2.2) = true := by decide +kernel
theorem jm_o_X10_layTried : jm_hw (jm_miw jm_i_X10_layTried) (jm_i_X10_layTried.2.2.2.2.2.2.2.2.2) = true := by decide +kernel
theorem jm_o_X10_carriesIf : jm_hw (jm_miw jm_i_X10_carriesIf) (jm_i_X10_carriesIf.2.2.2.2.2.2.2.2.2) = true := by decide +kernel
theorem jm_o_X10_leaves : jm_hw (jm_miw jm_i_X10_leaves) (jm_i_X10_leaves.2.2.2.2.2.2.2.2.2) = true := by decide +kernel
theorem jm_o_X10_carries : jm_hw (jm_miw jm_i_X10_carries) (jm_i_X10_carries.2.2.2.2.2.2.2.2.2) = true := by decide +kernel
theorem jm_o_X10_clean : jm_hw (jm_miw jm_i_X10_clean) (jm_i_X10_clean.2.2.2.2.2.2.2.2.2) = true := by decide +kernel
theorem jm_o_X10_layLine : jm_hw (jm_miw jm_i_X10_layLine) (jm_i_X10_layLine.2.2.2.2.2.2.2.2.2) = true := by decide +kernel
theorem jm_o_X10_swapLine : jm_hw (jm_miw jm_i_X10_swapLine) (jm_i_X10_swapLine.2.2.2.2.2.2.2.2.2) = true := by decide +kernel
theorem jm_o_X10_takeLine : jm_hw (jm_miw jm_i_X10_takeLine) (jm_i_X10_takeLine.2.2.2.2.2.2.2.2.2) = true := by decide +kernel
theorem jm_o_X10_nextLine : jm_hw (jm_miw jm_i_X10_nextLine) (jm_i_X10_nextLine.2.2.2.2.2.2.2.2.2) = true := by decide +kernel
theorem jm_o_X10_comeAll : jm_hw (jm_miw jm_i_X10_comeAll) (jm_i_X10_comeAll.2.2.2.2.2.2.2.2.2) = true := by decide +kernel
theorem jm_o_X10_order : jm_hw (jm_miw jm_i_X10_order) (jm_i_X10_order.2.2.2.2.2.2.2.2.2) = true := by decide +kernel
theorem jm_o_X10_layMats : jm_hw (jm_miw jm_i_X10_layMats) (jm_i_X10_layMats.2.2.2.2.2.2.2.2.2) = true := by decide +kernel
theorem jm_o_X10_laying : jm_hw (jm_miw jm_i_X10_laying) (jm_i_X10_laying.2.2.2.2.2.2.2.2.2) = true := by decide +kernel
theorem jm_o_X10_beating : jm_hw (jm_miw jm_i_X10_beating) (jm_i_X10_beating.2.2.2.2.2.2.2.2.2) = true := by decide +kernel
theorem jm_o_X10_pacts : jm_hw (jm_miw jm_i_X10_pacts) (jm_i_X10_pacts.2.2.2.2.2.2.2.2.2) = true := by decide +kernel
theorem jm_o_X10_could : jm_hw (jm_miw jm_i_X10_could) (jm_i_X10_could.2.2.2.2.2.2.2.2.2) = true := by decide +kernel
theorem jm_o_X10_noItems : jm_hw (jm_miw jm_i_X10_noItems) (jm_i_X10_noItems.2.2.2.2.2.2.2.2.2) = true := by decide +kernel
theorem jm_o_X10_isSo : jm_hw (jm_miw jm_i_X10_isSo) (jm_i_X10_isSo.2.2.2.2.2.2.2.2.2) = true := by decide +kernel
theorem jm_o_X10_who : jm_hw (jm_miw jm_i_X10_who) (jm_i_X10_who.2.2.2.2.2.2.2.2.2) = true := by decide +kernel
theorem jm_o_X10_fits : jm_hw (jm_miw jm_i_X10_fits) (jm_i_X10_fits.2.2.2.2.2.2.2.2.2) = true := by decide +kernel
theorem jm_o_X10_absent : jm_hw (jm_miw jm_i_X10_absent) (jm_i_X10_absent.2.2.2.2.2.2.2.2.2) = true := by decide +kernel
theorem jm_o_X10_drawn : jm_hw (jm_miw jm_i_X10_drawn) (jm_i_X10_drawn.2.2.2.2.2.2.2.2.2) = true := by decide +kernel
theorem jm_o_X10_image : jm_hw (jm_miw jm_i_X10_image) (jm_i_X10_image.2.2.2.2.2.2.2.2.2) = true := by decide +kernel
theorem jm_o_X10_restore : jm_hw (jm_miw jm_i_X10_restore) (jm_i_X10_restore.2.2.2.2.2.2.2.2.2) = true := by decide +kernel
theorem jm_o_X10_kind : jm_hw (jm_miw jm_i_X10_kind) (jm_i_X10_kind.2.2.2.2.2.2.2.2.2) = true := by decide +kernel
theorem jm_o_X10_isOf : jm_hw (jm_miw jm_i_X10_isOf) (jm_i_X10_isOf.2.2.2.2.2.2.2.2.2) = true := by decide +kernel
theorem jm_o_X10_as : jm_hw (jm_miw jm_i_X10_as) (jm_i_X10_as.2.2.2.2.2.2.2.2.2) = true := by decide +kernel
theorem jm_o_X10_begin : jm_hw (jm_miw jm_i_X10_begin) (jm_i_X10_begin.2.2.2.2.2.2.2.2.2) = true := by decide +kernel
theorem jm_o_X10_lentSize : jm_hw (jm_miw jm_i_X10_lentSize) (jm_i_X10_lentSize.2.2.2.2.2.2.2.2.2) = true := by decide +kernel
theorem jm_o_X10_wiperSize : jm_hw (jm_miw jm_i_X10_wiperSize) (jm_i_X10_wiperSize.2.2.2.2.2.2.2.2.2) = true := by decide +kernel
theorem jm_o_X10_stamperSize : jm_hw (jm_miw jm_i_X10_stamperSize) (jm_i_X10_stamperSize.2.2.2.2.2.2.2.2.2) = true := by decide +kernel
theorem jm_o_X10_sizeOf : jm_hw (jm_miw jm_i_X10_sizeOf) (jm_i_X10_sizeOf.2.2.2.2.2.2.2.2.2) = true := by decide +kernel
theorem jm_o_X10_lentMark : jm_hw (jm_miw jm_i_X10_lentMark) (jm_i_X10_lentMark.2.2.2.2.2.2.2.2.2) = true := by decide +kernel
theorem jm_o_X10_wiperMark : jm_hw (jm_miw jm_i_X10_wiperMark) (jm_i_X10_wiperMark.2.2.2.2.2.2.2.2.2) = true := by decide +kernel
theorem jm_o_X10_mark : jm_hw (jm_miw jm_i_X10_mark) (jm_i_X10_mark.2.2.2.2.2.2.2.2.2) = true := by decide +kernel
theorem jm_o_X10_stamperMark : jm_hw (jm_miw jm_i_X10_stamperMark) (jm_i_X10_stamperMark.2.2.2.2.2.2.2.2.2) = true := by decide +kernel
theorem jm_o_X10_ask : jm_hw (jm_miw jm_i_X10_ask) (jm_i_X10_ask.2.2.2.2.2.2.2.2.2) = true := by decide +kernel
theorem jm_o_X10_trace : jm_hw (jm_miw jm_i_X10_trace) (jm_i_X10_trace.2.2.2.2.2.2.2.2.2) = true := by decide +kernel
theorem jm_o_X10_comings : jm_hw (jm_miw jm_i_X10_comings) (jm_i_X10_comings.2.2.2.2.2.2.2.2.2) = true := by decide +kernel
theorem jm_o_X10_count : jm_hw (jm_miw jm_i_X10_count) (jm_i_X10_count.2.2.2.2.2.2.2.2.2) = true := by decide +kernel
theorem jm_o_X10_status : jm_hw (jm_miw jm_i_X10_status) (jm_i_X10_status.2.2.2.2.2.2.2.2.2) = true := by decide +kernel
theorem jm_o_J6_bitCount_0f7a4 : jm_hw (jm_miw jm_i_J6_bitCount_0f7a4) (jm_i_J6_bitCount_0f7a4.2.2.2.2.2.2.2.2.2) = true := by decide +kernel
end
section
/-! A small machine over whole numbers: values are an int, a long or a reference; cells are numbered in the order of their making. -/
abbrev jm_V : Type := Int ⊕ (Int ⊕ Int)
/-- a cell's kind (0 int[], 1 boolean[], 2 .. 9 arrays of references, 10 + c an object of class c), its length, its reference fields -/
abbrev jm_S : Type := Nat × Nat × List Int
abbrev jm_M : Type := Int → Int → Int
abbrev jm_H : Type := List jm_S × jm_M
abbrev jm_E : Type := Nat × Instr × Nat × List Int
abbrev jm_L : Type := List (Option jm_V)
abbrev jm_K : Type := Nat → jm_L → List jm_V → jm_H → Prop
abbrev jm_Q : Type := List jm_V → jm_H → Prop
abbrev jm_C : Type := Nat → List jm_V → jm_H → jm_Q → Prop
abbrev jm_X : Type := Nat → Nat × (Int → Int)
abbrev jm_vi (z : Int) : jm_V := .inl z
abbrev jm_vl (z : Int) : jm_V := .inr (.inl z)
abbrev jm_vr (z : Int) : jm_V := .inr (.inr z)
abbrev jm_r (z : Int) : Prop := -2147483648 ≤ z ∧ z ≤ 2147483647
abbrev jm_rl (z : Int) : Prop := -9223372036854775808 ≤ z ∧ z ≤ 9223372036854775807
def jm_and (a b : Int) : Int := (Int32.ofInt a &&& Int32.ofInt b).toInt
def jm_or (a b : Int) : Int := (Int32.ofInt a ||| Int32.ofInt b).toInt
def jm_xor (a b : Int) : Int := (Int32.ofInt a ^^^ Int32.ofInt b).toInt
def jm_shl (a b : Int) : Int := (Int32.ofInt a <<< (Int32.ofInt b &&& 31)).toInt
def jm_shr (a b : Int) : Int := (Int32.ofInt a >>> (Int32.ofInt b &&& 31)).toInt
def jm_ushr (a b : Int) : Int := (((Int32.ofInt a).toUInt32 >>> ((Int32.ofInt b).toUInt32 &&& Int32.toUInt32 31)).toInt32).toInt
def jm_u1 (f : Int → Int) (j v : Int) : Int → Int := fun b => if b = j then v else f b
def jm_uc (μ : jm_M) (z : Int) (f : Int → Int) : jm_M := fun a => if a = z then f else μ a
def jm_cpy (f g : Int → Int) (sp dp n : Int) : Int → Int := fun k => if dp ≤ k ∧ k < dp + n then f (sp + (k - dp)) else g k
/-- a value comes into the locals; a long ahead of it that it cuts is gone -/
def jm_set : jm_L → Nat → jm_V → jm_L
  | [], _, _ => []
  | _ :: r, 0, v => some v :: r
  | o :: r, 1, v => (match o with | some (.inr (.inl _)) => none | o => o) :: jm_set r 0 v
  | o :: r, k + 2, v => o :: jm_set r (k + 1) v
def jm_set2 (L : jm_L) (k : Nat) (v : jm_V) : jm_L := (jm_set L k v).set (k + 1) none
def jm_loc : List jm_V → jm_L
  | [] => []
  | .inl z :: r => some (.inl z) :: jm_loc r
  | .inr (.inl z) :: r => some (.inr (.inl z)) :: none :: jm_loc r
  | .inr (.inr z) :: r => some (.inr (.inr z)) :: jm_loc r
def jm_cond (c : Jvm.ClassFile.Cond) (a b : Int) : Prop := match c with
  | .eq => a = b
  | .ne => ¬ a = b
  | .lt => a < b
  | .ge => b ≤ a
  | .gt => b < a
  | .le => a ≤ b
def jm_tot : List jm_S → Nat
  | [] => 0
  | s :: r => s.2.1 + jm_tot r
/-- a switch: the values with the places where it goes on, then the place for all others -/
def jm_sw (K : Nat → Prop) (a : Int) : List Int → Prop
  | [] => False
  | [t] => K t.toNat
  | v :: t :: r => (a = v → K t.toNat) ∧ (¬ a = v → jm_sw K a r)
/-- class c's field k: 0 an int, 1 a boolean, 2 a reference -/
def jm_ft : List (List Nat) := [[2, 0], [0, 0, 0, 0, 0], [2, 2, 2, 2, 2, 0], [2, 0, 0], [0, 0, 0, 0, 2, 2], [0, 2], [2, 0, 0, 0], [2, 2, 2], [2, 2, 2], [2, 2, 2, 2, 2, 2, 2, 2, 2, 2, 0, 0], [2, 1, 0, 2, 2, 2, 2, 2, 0, 0, 0, 2, 0, 0, 0, 0, 2, 2]]
def jm_fty (c k : Nat) : Nat := (jm_ft.getD c []).getD k 9
/-- what one instruction asks for, so that K may go on behind it. B: how many cells and slots there may be at most; Q: what holds at the end -/
def jm_sem (X : jm_X) (C : jm_C) (B : Nat × Nat) (Q : jm_Q) (K : jm_K) (e : jm_E) (i : Nat) (L : jm_L) (st : List jm_V) (h : jm_H) : Prop :=
  match e.2.1 with
  | .iconst n => K (i + 1) L (.inl n :: st) h
  | .bipush n => K (i + 1) L (.inl n :: st) h
  | .sipush n => K (i + 1) L (.inl n :: st) h
  | .ldc _ => match e.2.2.2 with
    | [v] => K (i + 1) L (.inl v :: st) h
    | _ => False
  | .ldc_w _ => match e.2.2.2 with
    | [v] => K (i + 1) L (.inl v :: st) h
    | _ => False
  | .ldc2_w _ => match e.2.2.2 with
    | [v] => K (i + 1) L (.inr (.inl v) :: st) h
    | _ => False
  | .lconst n => K (i + 1) L (.inr (.inl n.val) :: st) h
  | .iload k => match L[k]? with
    | some (some (.inl z)) => K (i + 1) L (.inl z :: st) h
    | _ => False
  | .iload_n k => match L[k.val]? with
    | some (some (.inl z)) => K (i + 1) L (.inl z :: st) h
    | _ => False
  | .lload k => match L[k]? with
    | some (some (.inr (.inl z))) => K (i + 1) L (.inr (.inl z) :: st) h
    | _ => False
  | .lload_n k => match L[k.val]? with
    | some (some (.inr (.inl z))) => K (i + 1) L (.inr (.inl z) :: st) h
    | _ => False
  | .aload k => match L[k]? with
    | some (some (.inr (.inr z))) => ¬ z = -1 ∧ K (i + 1) L (.inr (.inr z) :: st) h
    | _ => False
  | .aload_n k => match L[k.val]? with
    | some (some (.inr (.inr z))) => ¬ z = -1 ∧ K (i + 1) L (.inr (.inr z) :: st) h
    | _ => False
  | .istore k => match st with
    | .inl z :: r => K (i + 1) (jm_set L k (.inl z)) r h
    | _ => False
  | .istore_n k => match st with
    | .inl z :: r => K (i + 1) (jm_set L k.val (.inl z)) r h
    | _ => False
  | .lstore k => match st with
    | .inr (.inl z) :: r => K (i + 1) (jm_set2 L k (.inr (.inl z))) r h
    | _ => False
  | .lstore_n k => match st with
    | .inr (.inl z) :: r => K (i + 1) (jm_set2 L k.val (.inr (.inl z))) r h
    | _ => False
  | .astore k => match st with
    | .inr (.inr z) :: r => ¬ z = -1 ∧ K (i + 1) (jm_set L k (.inr (.inr z))) r h
    | _ => False
  | .astore_n k => match st with
    | .inr (.inr z) :: r => ¬ z = -1 ∧ K (i + 1) (jm_set L k.val (.inr (.inr z))) r h
    | _ => False
  | .iinc k n => match L[k]? with
    | some (some (.inl z)) => jm_r (z + n) ∧ K (i + 1) (jm_set L k (.inl (z + n))) st h
    | _ => False
  | .iadd => match st with
    | .inl b :: .inl a :: r => jm_r (a + b) ∧ K (i + 1) L (.inl (a + b) :: r) h
    | _ => False
  | .isub => match st with
    | .inl b :: .inl a :: r => jm_r (a - b) ∧ K (i + 1) L (.inl (a - b) :: r) h
    | _ => False
  | .imul => match st with
    | .inl b :: .inl a :: r => jm_r (a * b) ∧ K (i + 1) L (.inl (a * b) :: r) h
    | _ => False
  | .idiv => match st with
    | .inl b :: .inl a :: r => (0 ≤ a ∧ 0 < b) ∧ K (i + 1) L (.inl (a / b) :: r) h
    | _ => False
  | .irem => match st with
    | .inl b :: .inl a :: r => (0 ≤ a ∧ 0 < b) ∧ K (i + 1) L (.inl (a % b) :: r) h
    | _ => False
  | .ineg => match st with
    | .inl a :: r => jm_r (-a) ∧ K (i + 1) L (.inl (-a) :: r) h
    | _ => False
  | .iand => match st with
    | .inl b :: .inl a :: r => K (i + 1) L (.inl (jm_and a b) :: r) h
    | _ => False
  | .ior => match st with
    | .inl b :: .inl a :: r => K (i + 1) L (.inl (jm_or a b) :: r) h
    | _ => False
  | .ixor => match st with
    | .inl b :: .inl a :: r => K (i + 1) L (.inl (jm_xor a b) :: r) h
    | _ => False
  | .ishl => match st with
    | .inl b :: .inl a :: r => K (i + 1) L (.inl (jm_shl a b) :: r) h
    | _ => False
  | .ishr => match st with
    | .inl b :: .inl a :: r => K (i + 1) L (.inl (jm_shr a b) :: r) h
    | _ => False
  | .iushr => match st with
    | .inl b :: .inl a :: r => K (i + 1) L (.inl (jm_ushr a b) :: r) h
    | _ => False
  | .i2l => match st with
    | .inl a :: r => K (i + 1) L (.inr (.inl a) :: r) h
    | _ => False
  | .l2i => match st with
    | .inr (.inl a) :: r => jm_r a ∧ K (i + 1) L (.inl a :: r) h
    | _ => False
  | .i2b => match st with
    | .inl a :: r => K (i + 1) L (.inl (a.bmod 256) :: r) h
    | _ => False
  | .i2s => match st with
    | .inl a :: r => K (i + 1) L (.inl (a.bmod 65536) :: r) h
    | _ => False
  | .ladd => match st with
    | .inr (.inl b) :: .inr (.inl a) :: r => jm_rl (a + b) ∧ K (i + 1) L (.inr (.inl (a + b)) :: r) h
    | _ => False
  | .lmul => match st with
    | .inr (.inl b) :: .inr (.inl a) :: r => jm_rl (a * b) ∧ K (i + 1) L (.inr (.inl (a * b)) :: r) h
    | _ => False
  | .lrem => match st with
    | .inr (.inl b) :: .inr (.inl a) :: r => (0 ≤ a ∧ 0 < b) ∧ K (i + 1) L (.inr (.inl (a % b)) :: r) h
    | _ => False
  | .lcmp => match st with
    | .inr (.inl b) :: .inr (.inl a) :: r => K (i + 1) L (.inl (if a < b then -1 else if a = b then 0 else 1) :: r) h
    | _ => False
  | .dup => match st with
    | .inl a :: r => K (i + 1) L (.inl a :: .inl a :: r) h
    | .inr (.inr a) :: r => K (i + 1) L (.inr (.inr a) :: .inr (.inr a) :: r) h
    | _ => False
  | .dup2 => match st with
    | .inl a :: .inr (.inr b) :: r => K (i + 1) L (.inl a :: .inr (.inr b) :: .inl a :: .inr (.inr b) :: r) h
    | _ => False
  | .pop => match st with
    | .inl _ :: r => K (i + 1) L r h
    | _ => False
  | .ifCond c _ => match st, e.2.2.2 with
    | .inl a :: r, [t] => (jm_cond c a 0 → K t.toNat L r h) ∧ (¬ jm_cond c a 0 → K (i + 1) L r h)
    | _, _ => False
  | .if_icmp c _ => match st, e.2.2.2 with
    | .inl b :: .inl a :: r, [t] => (jm_cond c a b → K t.toNat L r h) ∧ (¬ jm_cond c a b → K (i + 1) L r h)
    | _, _ => False
  | .goto _ => match e.2.2.2 with
    | [t] => K t.toNat L st h
    | _ => False
  | .tableswitch _ _ _ _ => match st with
    | .inl a :: r => jm_sw (fun t => K t L r h) a e.2.2.2
    | _ => False
  | .lookupswitch _ _ => match st with
    | .inl a :: r => jm_sw (fun t => K t L r h) a e.2.2.2
    | _ => False
  | .getfield _ => match st, e.2.2.2 with
    | .inr (.inr z) :: r, [c, k, t] => match h.1[z.toNat]? with
      | some s => (0 ≤ z ∧ s.1 = 10 + c.toNat) ∧ K (i + 1) L ((if t = 2 then .inr (.inr (s.2.2.getD k.toNat (-1))) else .inl (h.2 z k)) :: r) h
      | none => False
    | _, _ => False
  | .putfield _ => match st, e.2.2.2 with
    | .inl v :: .inr (.inr z) :: r, [c, k, t] => match h.1[z.toNat]? with
      | some s => (0 ≤ z ∧ s.1 = 10 + c.toNat) ∧ (t = 0 ∨ (t = 1 ∧ (v = 0 ∨ v = 1))) ∧ K (i + 1) L r (h.1, jm_uc h.2 z (jm_u1 (h.2 z) k v))
      | none => False
    | .inr (.inr v) :: .inr (.inr z) :: r, [c, k, t] => match h.1[z.toNat]? with
      | some s => (0 ≤ z ∧ s.1 = 10 + c.toNat) ∧ (0 ≤ v ∧ t = 2 ∧ k.toNat < s.2.2.length) ∧ K (i + 1) L r (h.1.set z.toNat (s.1, s.2.1, s.2.2.set k.toNat v), h.2)
      | none => False
    | _, _ => False
  | .getstatic _ => match e.2.2.2 with
    | [k] => K (i + 1) L (.inr (.inr k) :: st) h
    | _ => False
  | .iaload => match st with
    | .inl j :: .inr (.inr z) :: r =>
      if 0 ≤ z then match h.1[z.toNat]? with
        | some s => s.1 = 0 ∧ (0 ≤ j ∧ j < s.2.1) ∧ K (i + 1) L (.inl (h.2 z j) :: r) h
        | none => False
      else (z ≤ -2 ∧ -7 ≤ z) ∧ (0 ≤ j ∧ j < (X (-2 - z).toNat).1) ∧ K (i + 1) L (.inl ((X (-2 - z).toNat).2 j) :: r) h
    | _ => False
  | .baload => match st with
    | .inl j :: .inr (.inr z) :: r => match h.1[z.toNat]? with
        | some s => (0 ≤ z ∧ s.1 = 1) ∧ (0 ≤ j ∧ j < s.2.1) ∧ K (i + 1) L (.inl (h.2 z j) :: r) h
        | none => False
    | _ => False
  | .aaload => match st with
    | .inl j :: .inr (.inr z) :: r => match h.1[z.toNat]? with
        | some s => (0 ≤ z ∧ 2 ≤ s.1 ∧ s.1 < 5) ∧ (0 ≤ j ∧ j < s.2.1) ∧ K (i + 1) L (.inr (.inr (h.2 z j)) :: r) h
        | none => False
    | _ => False
  | .iastore => match st with
    | .inl v :: .inl j :: .inr (.inr z) :: r => match h.1[z.toNat]? with
        | some s => (0 ≤ z ∧ s.1 = 0) ∧ (0 ≤ j ∧ j < s.2.1) ∧ K (i + 1) L r (h.1, jm_uc h.2 z (jm_u1 (h.2 z) j v))
        | none => False
    | _ => False
  | .bastore => match st with
    | .inl v :: .inl j :: .inr (.inr z) :: r => match h.1[z.toNat]? with
        | some s => (0 ≤ z ∧ s.1 = 1) ∧ (0 ≤ j ∧ j < s.2.1) ∧ (v = 0 ∨ v = 1) ∧ K (i + 1) L r (h.1, jm_uc h.2 z (jm_u1 (h.2 z) j v))
        | none => False
    | _ => False
  | .aastore => match st with
    | .inr (.inr v) :: .inl j :: .inr (.inr z) :: r => match h.1[z.toNat]?, h.1[v.toNat]? with
        | some s, some q => (0 ≤ z ∧ (0 ≤ v ∧ v ≤ 100000) ∧ ((s.1 = 2 ∧ q.1 = 15) ∨ (s.1 = 3 ∧ q.1 = 11) ∨ (s.1 = 4 ∧ q.1 = 14))) ∧ (0 ≤ j ∧ j < s.2.1) ∧ K (i + 1) L r (h.1, jm_uc h.2 z (jm_u1 (h.2 z) j v))
        | _, _ => False
    | _ => False
  | .arraylength => match st with
    | .inr (.inr z) :: r => (z ≤ -2 ∧ -7 ≤ z) ∧ K (i + 1) L (.inl (X (-2 - z).toNat).1 :: r) h
    | _ => False
  | .newarray ty => match st, e.2.2.2 with
    | .inl n :: r, [k] => ((k = 0 ∧ ty = .int) ∨ (k = 1 ∧ ty = .boolean)) ∧ (0 ≤ n ∧ n ≤ 100000) ∧ (h.1.length + 1 ≤ B.1 ∧ jm_tot h.1 + n.toNat ≤ B.2) ∧ K (i + 1) L (.inr (.inr h.1.length) :: r) (h.1 ++ [(k.toNat, n.toNat, [])], jm_uc h.2 h.1.length (fun _ => 0))
    | _, _ => False
  | .anewarray _ => match st, e.2.2.2 with
    | .inl n :: r, [k] => (2 ≤ k ∧ k < 5) ∧ (0 ≤ n ∧ n ≤ 100000) ∧ (h.1.length + 1 ≤ B.1 ∧ jm_tot h.1 + n.toNat ≤ B.2) ∧ K (i + 1) L (.inr (.inr h.1.length) :: r) (h.1 ++ [(k.toNat, n.toNat, [])], jm_uc h.2 h.1.length (fun _ => -1))
    | _, _ => False
  | .new _ => match e.2.2.2 with
    | [c, n] => (h.1.length + 1 ≤ B.1 ∧ jm_tot h.1 + n.toNat ≤ B.2) ∧ K (i + 1) L (.inr (.inr h.1.length) :: st) (h.1 ++ [(10 + c.toNat, n.toNat, List.replicate n.toNat (-1))], jm_uc h.2 h.1.length (fun _ => 0))
    | _ => False
  | .invokevirtual _ => match e.2.2.2 with
    | [n, a, c] => match st.drop a.toNat with
      | .inr (.inr z) :: r => match h.1[z.toNat]? with
        | some s => (0 ≤ z ∧ r.length ≤ 4 ∧ s.1 = 10 + c.toNat) ∧ C n.toNat (.inr (.inr z) :: (st.take a.toNat).reverse) h (fun v h' => K (i + 1) L (v ++ r) h')
        | none => False
      | _ => False
    | _ => False
  | .invokestatic _ => match e.2.2.2 with
    | [n, a] => (a.toNat ≤ st.length ∧ (st.drop a.toNat).length ≤ 4) ∧ C n.toNat (st.take a.toNat).reverse h (fun v h' => K (i + 1) L (v ++ st.drop a.toNat) h')
    | [_] => match st with
      | .inl b :: .inl a :: r => r.length ≤ 4 ∧ K (i + 1) L (.inl (min a b) :: r) h
      | _ => False
    | [] => match st with
      | .inl n :: .inl dp :: .inr (.inr d) :: .inl sp :: .inr (.inr q) :: r => match h.1[q.toNat]?, h.1[d.toNat]? with
        | some s, some t => (0 ≤ q ∧ 0 ≤ d ∧ s.1 = 0 ∧ t.1 = 0 ∧ r.length ≤ 4) ∧ ((0 ≤ sp ∧ 0 ≤ dp ∧ 0 ≤ n) ∧ sp + n ≤ s.2.1 ∧ dp + n ≤ t.2.1) ∧ K (i + 1) L r (h.1, jm_uc h.2 d (jm_cpy (h.2 q) (h.2 d) sp dp n))
        | _, _ => False
      | _ => False
    | _ => False
  | .invokespecial _ => match e.2.2.2 with
    | [n, mc, ms] => match st with
      | .inr (.inr z) :: r => (0 ≤ z ∧ r.length ≤ 4) ∧ (h.1.length + mc.toNat ≤ B.1 ∧ jm_tot h.1 + ms.toNat ≤ B.2) ∧ C n.toNat [.inr (.inr z)] h (fun v h' => K (i + 1) L (v ++ r) h')
      | _ => False
    | [] => match st with
      | .inr (.inr z) :: r => (0 ≤ z ∧ r.length ≤ 4) ∧ K (i + 1) L r h
      | _ => False
    | _ => False
  | .ireturn => match st, e.2.2.2 with
    | [.inl v], [t] => (t = 0 ∨ (t = 1 ∧ (v = 0 ∨ v = 1))) ∧ Q [.inl v] h
    | _, _ => False
  | .return_ => match st with
    | [] => Q [] h
    | _ => False
  | _ => False
/-- from place i on the program comes to an end with Q -/
def jm_WP (X : jm_X) (C : jm_C) (B : Nat × Nat) (P : List jm_E) (Q : jm_Q) (i : Nat) (L : jm_L) (st : List jm_V) (h : jm_H) : Prop :=
  ∀ K : jm_K, (∀ (i : Nat) (e : jm_E) (L : jm_L) (st : List jm_V) (h : jm_H), P[i]? = some e → jm_sem X C B Q K e i L st h → K i L st h) → K i L st h
end
section
/-! what one instruction asks for is no more for a wider K -/
def jm_mono (C : jm_C) : Prop := ∀ (n : Nat) (a : List jm_V) (h : jm_H) (Q Q' : jm_Q), (∀ v h, Q v h → Q' v h) → C n a h Q → C n a h Q'
theorem jm_sw_mono {K K' : Nat → Prop} (hK : ∀ t, K t → K' t) (a : Int) : ∀ l : List Int, jm_sw K a l → jm_sw K' a l
  | [], h => h
  | [_], h => hK _ h
  | _ :: _ :: r, h => ⟨fun q => hK _ (h.1 q), fun q => jm_sw_mono hK a r (h.2 q)⟩
set_option maxHeartbeats 2000000 in
theorem jm_sem_mono {X : jm_X} {C : jm_C} {B : Nat × Nat} {Q : jm_Q} {K K' : jm_K} (hC : jm_mono C) (hK : ∀ i L st h, K i L st h → K' i L st h) (e : jm_E) (i : Nat) (L : jm_L) (st : List jm_V) (h : jm_H) :
    jm_sem X C B Q K e i L st h → jm_sem X C B Q K' e i L st h := by
  obtain ⟨pc, ins, len, res⟩ := e
  cases ins
  case tableswitch =>
    simp only [jm_sem]
    split
    · exact jm_sw_mono (fun t => hK t _ _ _) _ _
    · exact id
  case lookupswitch =>
    simp only [jm_sem]
    split
    · exact jm_sw_mono (fun t => hK t _ _ _) _ _
    · exact id
  case invokevirtual =>
    simp only [jm_sem]
    split
    · split
      · split
        · exact fun q => ⟨q.1, hC _ _ _ _ _ (fun v h => hK _ _ _ _) q.2⟩
        · exact id
      · exact id
    · exact id
  case invokestatic =>
    simp only [jm_sem]
    split
    · exact fun q => ⟨q.1, hC _ _ _ _ _ (fun v h => hK _ _ _ _) q.2⟩
    · split
      · exact fun q => ⟨q.1, hK _ _ _ _ q.2⟩
      · exact id
    · split
      · split
        · exact fun q => ⟨q.1, q.2.1, hK _ _ _ _ q.2.2⟩
        · exact id
      · exact id
    · exact id
  case invokespecial =>
    simp only [jm_sem]
    split
    · split
      · exact fun q => ⟨q.1, q.2.1, hC _ _ _ _ _ (fun v h => hK _ _ _ _) q.2.2⟩
      · exact id
    · split
      · exact fun q => ⟨q.1, hK _ _ _ _ q.2⟩
      · exact id
    · exact id
  case ifCond =>
    simp only [jm_sem]
    split
    · exact fun q => ⟨fun z => hK _ _ _ _ (q.1 z), fun z => hK _ _ _ _ (q.2 z)⟩
    · exact id
  case if_icmp =>
    simp only [jm_sem]
    split
    · exact fun q => ⟨fun z => hK _ _ _ _ (q.1 z), fun z => hK _ _ _ _ (q.2 z)⟩
    · exact id
  all_goals
    simp only [jm_sem]
    first
      | exact id
      | exact hK _ _ _ _
      | (split <;> first | exact id | exact hK _ _ _ _ | exact fun q => ⟨q.1, hK _ _ _ _ q.2⟩ | exact fun q => ⟨q.1, q.2.1, hK _ _ _ _ q.2.2⟩ | exact fun q => ⟨q.1, q.2.1, q.2.2.1, hK _ _ _ _ q.2.2.2⟩)
      | (split <;> first | exact id | (split <;> first | exact id | exact fun q => ⟨q.1, hK _ _ _ _ q.2⟩ | exact fun q => ⟨q.1, q.2.1, hK _ _ _ _ q.2.2⟩ | exact fun q => ⟨q.1, q.2.1, q.2.2.1, hK _ _ _ _ q.2.2.2⟩))
      | (split <;> first | exact id | (split <;> first | exact id | exact fun q => ⟨q.1, hK _ _ _ _ q.2⟩ | exact fun q => ⟨q.1, q.2.1, hK _ _ _ _ q.2.2⟩ | (split <;> first | exact id | exact fun q => ⟨q.1, q.2.1, hK _ _ _ _ q.2.2⟩)))
theorem jm_sem_Q {X : jm_X} {C : jm_C} {B : Nat × Nat} {Q Q' : jm_Q} {K : jm_K} (hQ : ∀ v h, Q v h → Q' v h) (e : jm_E) (i : Nat) (L : jm_L) (st : List jm_V) (h : jm_H) :
    jm_sem X C B Q K e i L st h → jm_sem X C B Q' K e i L st h := by
  obtain ⟨pc, ins, len, res⟩ := e
  cases ins
  case ireturn =>
    simp only [jm_sem]
    split
    · exact fun q => ⟨q.1, hQ _ _ q.2⟩
    · exact id
  case return_ =>
    simp only [jm_sem]
    split
    · exact hQ _ _
    · exact id
  all_goals exact id
theorem jm_WP_Q {X : jm_X} {C : jm_C} {B : Nat × Nat} {P : List jm_E} {Q Q' : jm_Q} (hQ : ∀ v h, Q v h → Q' v h) {i : Nat} {L : jm_L} {st : List jm_V} {h : jm_H} (k : jm_WP X C B P Q i L st h) : jm_WP X C B P Q' i L st h :=
  fun K hK => k K (fun i e L st h he q => hK i e L st h he (jm_sem_Q hQ e i L st h q))
theorem jm_fold {X : jm_X} {C : jm_C} {B : Nat × Nat} {P : List jm_E} {Q : jm_Q} (hC : jm_mono C) {i : Nat} {e : jm_E} {L : jm_L} {st : List jm_V} {h : jm_H} (he : P[i]? = some e)
    (k : jm_sem X C B Q (jm_WP X C B P Q) e i L st h) : jm_WP X C B P Q i L st h :=
  fun K hK => hK i e L st h he (jm_sem_mono hC (fun i L st h q => q K hK) e i L st h k)
/-! numbers -/
theorem jm_ti {z : Int} (h : jm_r z) : (Int32.ofInt z).toInt = z := Int32.toInt_ofInt_of_le (by have := h.1; omega) (by have := h.2; omega)
theorem jm_tl {z : Int} (h : jm_rl z) : (Int64.ofInt z).toInt = z := Int64.toInt_ofInt_of_le (by have := h.1; omega) (by have := h.2; omega)
theorem jm_lt {a b : Int} (ha : jm_r a) (hb : jm_r b) : Int32.ofInt a < Int32.ofInt b ↔ a < b := by rw [Int32.lt_iff_toInt_lt, jm_ti ha, jm_ti hb]
theorem jm_le {a b : Int} (ha : jm_r a) (hb : jm_r b) : Int32.ofInt a ≤ Int32.ofInt b ↔ a ≤ b := by rw [Int32.le_iff_toInt_le, jm_ti ha, jm_ti hb]
theorem jm_eq {a b : Int} (ha : jm_r a) (hb : jm_r b) : Int32.ofInt a = Int32.ofInt b ↔ a = b := by rw [← Int32.toInt_inj, jm_ti ha, jm_ti hb]
theorem jm_r0 : jm_r 0 := ⟨by decide, by decide⟩
theorem jm_rI (x : Int32) : jm_r x.toInt := by
  have h1 := x.le_toInt
  have h2 := x.toInt_lt
  exact ⟨by omega, by omega⟩
theorem jm_nn {z : Int} (h : jm_r z) : (Int32.ofInt z).toNatClampNeg = z.toNat := Int32.toNatClampNeg_ofInt_of_le (by have := h.1; omega) (by have := h.2; omega)
theorem jm_n0 {z : Int} (h : jm_r z) (h0 : 0 ≤ z) : ¬ Int32.ofInt z < 0 := by
  intro q
  have h2 := (jm_lt h jm_r0).mp q
  omega
theorem jm_vin {z : Int} {n : Nat} (h : jm_r z) (h0 : 0 ≤ z) (h1 : z < n) : vp_in (Int32.ofInt z) n := by
  intro q
  rcases q with q | q
  · exact jm_n0 h h0 q
  · rw [jm_nn h] at q
    omega
theorem jm_div {a b : Int} (ha : jm_r a) (hb : jm_r b) (h0 : 0 ≤ a) (h1 : 0 < b) : Int32.ofInt a / Int32.ofInt b = Int32.ofInt (a / b) := by
  have h2 : 0 ≤ a / b := Int.ediv_nonneg h0 (by omega)
  have h3 : a / b ≤ a := Int.ediv_le_self b h0
  have hr : jm_r (a / b) := ⟨by omega, by have := ha.2; omega⟩
  rw [← Int32.toInt_inj, lg_idiv_nonneg (by rw [jm_ti ha]; exact h0) (by rw [jm_ti hb]; exact h1), jm_ti ha, jm_ti hb, jm_ti hr]
theorem jm_rdiv {a b : Int} (ha : jm_r a) (h0 : 0 ≤ a) (h1 : 0 < b) : jm_r (a / b) := by
  have h2 : 0 ≤ a / b := Int.ediv_nonneg h0 (by omega)
  have h3 : a / b ≤ a := Int.ediv_le_self b h0
  exact ⟨by omega, by have := ha.2; omega⟩
theorem jm_rmod {a b : Int} (hb : jm_r b) (h1 : 0 < b) : jm_r (a % b) := by
  have h2 : 0 ≤ a % b := Int.emod_nonneg a (by omega)
  have h3 : a % b < b := Int.emod_lt_of_pos a h1
  exact ⟨by omega, by have := hb.2; omega⟩
theorem jm_mod {a b : Int} (ha : jm_r a) (hb : jm_r b) (h0 : 0 ≤ a) (h1 : 0 < b) : Int32.ofInt a - Int32.ofInt a / Int32.ofInt b * Int32.ofInt b = Int32.ofInt (a % b) := by
  rw [← Int32.toInt_inj, rem_toInt, jm_ti ha, jm_ti hb, jm_ti (jm_rmod hb h1), Int.tmod_eq_emod_of_nonneg h0]
theorem jm_rlmod {a b : Int} (hb : jm_rl b) (h1 : 0 < b) : jm_rl (a % b) := by
  have h2 : 0 ≤ a % b := Int.emod_nonneg a (by omega)
  have h3 : a % b < b := Int.emod_lt_of_pos a h1
  exact ⟨by omega, by have := hb.2; omega⟩
theorem jm_rldiv {a b : Int} (ha : jm_rl a) (h0 : 0 ≤ a) (h1 : 0 < b) : jm_rl (a / b) := by
  have h2 : 0 ≤ a / b := Int.ediv_nonneg h0 (by omega)
  have h3 : a / b ≤ a := Int.ediv_le_self b h0
  exact ⟨by omega, by have := ha.2; omega⟩
theorem jm_lmod {a b : Int} (ha : jm_rl a) (hb : jm_rl b) (h0 : 0 ≤ a) (h1 : 0 < b) : Int64.ofInt a - Int64.ofInt a / Int64.ofInt b * Int64.ofInt b = Int64.ofInt (a % b) := by
  have e1 : Int64.ofInt a / Int64.ofInt b = Int64.ofInt (a / b) := by
    rw [← Int64.toInt_inj, lg_ldiv_nonneg (by rw [jm_tl ha]; exact h0) (by rw [jm_tl hb]; exact h1), jm_tl ha, jm_tl hb, jm_tl (jm_rldiv ha h0 h1)]
  rw [e1, ← Int64.ofInt_mul, ← Int64.ofInt_sub]
  congr 1
  have := Int.emod_add_mul_ediv a b
  rw [Int.mul_comm] at this
  omega
theorem jm_b {a : Int} (h : jm_r a) : (Int32.ofInt a).toInt8.toInt32 = Int32.ofInt (a.bmod 256) := by
  have h1 := lg_i2b_range (Int32.ofInt a)
  have h2 := lg_i2b_toInt (Int32.ofInt a)
  rw [jm_ti h] at h2
  rw [show (2 : Nat) ^ 8 = 256 from rfl] at h2
  rw [← Int32.toInt_inj, jm_ti ⟨by rw [← h2]; omega, by rw [← h2]; omega⟩, h2]
theorem jm_rb (a : Int) : jm_r (a.bmod 256) := by
  have h1 := @Int.le_bmod a 256 (by decide)
  have h2 := @Int.bmod_lt a 256 (by decide)
  exact ⟨by omega, by omega⟩
theorem jm_s {a : Int} (h : jm_r a) : (Int32.ofInt a).toInt16.toInt32 = Int32.ofInt (a.bmod 65536) := by
  have h1 := lg_i2s_range (Int32.ofInt a)
  have h2 := lg_i2s_toInt (Int32.ofInt a)
  rw [jm_ti h] at h2
  rw [show (2 : Nat) ^ 16 = 65536 from rfl] at h2
  rw [← Int32.toInt_inj, jm_ti ⟨by rw [← h2]; omega, by rw [← h2]; omega⟩, h2]
theorem jm_rs (a : Int) : jm_r (a.bmod 65536) := by
  have h1 := @Int.le_bmod a 65536 (by decide)
  have h2 := @Int.bmod_lt a 65536 (by decide)
  exact ⟨by omega, by omega⟩
theorem jm_i2l {a : Int} (h : jm_r a) : (Int32.ofInt a).toInt64 = Int64.ofInt a := by
  rw [← Int64.toInt_inj, Int32.toInt_toInt64, jm_ti h, jm_tl ⟨by have := h.1; omega, by have := h.2; omega⟩]
theorem jm_lc {a b : Int} (ha : jm_rl a) (hb : jm_rl b) : lg_cmp (Int64.ofInt a) (Int64.ofInt b) = Int32.ofInt (if a < b then -1 else if a = b then 0 else 1) := by
  unfold lg_cmp
  simp only [gt_iff_lt, Int64.lt_iff_toInt_lt, ← Int64.toInt_inj, jm_tl ha, jm_tl hb]
  by_cases h1 : a < b
  · have h2 : ¬ b < a := by omega
    have h3 : ¬ a = b := by omega
    rw [if_neg h2, if_neg h3, if_pos h1]; rfl
  · rw [if_neg h1]
    by_cases h3 : a = b
    · have h2 : ¬ b < a := by omega
      rw [if_neg h2, if_pos h3, if_pos h3]; rfl
    · have h2 : b < a := by omega
      rw [if_pos h2, if_neg h3]; rfl
theorem jm_rc (a b : Int) : jm_r (if a < b then -1 else if a = b then 0 else 1) := by
  split
  · exact ⟨by decide, by decide⟩
  · split <;> exact ⟨by decide, by decide⟩
end
section
/-! how the small machine's cells and values stand in the real heap -/
def jm_ro (ba : Nat) (ex : Nat → Nat) (z : Int) : Option Nat := if 0 ≤ z then some (ba + z.toNat) else if z = -1 then none else some (ex (-2 - z).toNat)
def jm_rv (ba : Nat) (ex : Nat → Nat) : jm_V → Value
  | .inl z => .int (Int32.ofInt z)
  | .inr (.inl z) => .long (Int64.ofInt z)
  | .inr (.inr z) => va_rf (jm_ro ba ex z)
def jm_ok : jm_V → Prop
  | .inl z => jm_r z
  | .inr (.inl z) => jm_rl z
  | .inr (.inr _) => True
theorem jm_rv_own {ba : Nat} {ex : Nat → Nat} {z : Int} (h : 0 ≤ z) : jm_rv ba ex (.inr (.inr z)) = .ref (ba + z.toNat) := by simp [jm_rv, jm_ro, h, va_rf]
theorem jm_rv_ext {ba : Nat} {ex : Nat → Nat} {z : Int} (h : z ≤ -2) : jm_rv ba ex (.inr (.inr z)) = .ref (ex (-2 - z).toNat) := by
  have h1 : ¬ 0 ≤ z := by omega
  have h2 : ¬ z = -1 := by omega
  simp [jm_rv, jm_ro, h1, h2, va_rf]
theorem jm_rv_ref {ba : Nat} {ex : Nat → Nat} {z : Int} (h : ¬ z = -1) : ∃ x, jm_rv ba ex (.inr (.inr z)) = .ref x := by
  by_cases h0 : 0 ≤ z
  · exact ⟨_, jm_rv_own h0⟩
  · exact ⟨_, jm_rv_ext (by omega)⟩
theorem jm_rv_cat (ba : Nat) (ex : Nat → Nat) (v : jm_V) : (jm_rv ba ex v).category ≤ 2 := by
  rcases lv_cat (jm_rv ba ex v) with h | h <;> omega
theorem jm_ref_cat (ba : Nat) (ex : Nat → Nat) (z : Int) : (jm_rv ba ex (.inr (.inr z))).category = 1 := by
  show (va_rf (jm_ro ba ex z)).category = 1
  cases jm_ro ba ex z <;> rfl
theorem jm_cat4 (ba : Nat) (ex : Nat → Nat) (r : List jm_V) (h : r.length ≤ 4) : ((r.map (jm_rv ba ex)).map fun v => v.category).sum ≤ 8 := by
  have key : ∀ r : List jm_V, ((r.map (jm_rv ba ex)).map fun v => v.category).sum ≤ 2 * r.length := by
    intro r
    induction r with
    | nil => simp
    | cons a l ih =>
      have := jm_rv_cat ba ex a
      simp only [List.map_cons, List.sum_cons, List.length_cons]
      omega
  have := key r
  omega
/-- the fields of an object of class c -/
def jm_fs (ba : Nat) (ex : Nat → Nat) (c i : Nat) (rf : List Int) (μ : jm_M) : List Value := (List.range (jm_N c)).map (fun k => if jm_fty c k = 2 then va_rf (jm_ro ba ex (rf.getD k (-1))) else .int (Int32.ofInt (μ i k)))
def jm_ent (aC : Nat → ClassId) (ba : Nat) (ex : Nat → Nat) (i : Nat) (s : jm_S) (μ : jm_M) : va_E :=
  if s.1 < 2 then .inl (aC s.1, (s.2.1, .inl (fun j => Int32.ofInt (μ i j))))
  else if s.1 < 10 then .inl (aC s.1, (s.2.1, .inr (.inr (.inr (.inr (fun j => jm_ro ba ex (μ i j)))))))
  else .inr (s.1 - 10, jm_fs ba ex (s.1 - 10) i s.2.2 μ)
def jm_ws (aC : Nat → ClassId) (ba : Nat) (ex : Nat → Nat) (h : jm_H) : va_W := (List.range h.1.length).map (fun i => (ba + i, jm_ent aC ba ex i (h.1.getD i (0, 0, [])) h.2))
theorem jm_ws_len (aC : Nat → ClassId) (ba : Nat) (ex : Nat → Nat) (h : jm_H) : (jm_ws aC ba ex h).length = h.1.length := by simp [jm_ws]
theorem jm_ws_at {aC : Nat → ClassId} {ba : Nat} {ex : Nat → Nat} {h : jm_H} {i : Nat} {s : jm_S} (hs : h.1[i]? = some s) : (jm_ws aC ba ex h)[i]? = some (ba + i, jm_ent aC ba ex i s h.2) := by
  obtain ⟨hi, rfl⟩ := List.getElem?_eq_some_iff.mp hs
  simp [jm_ws, hi]
theorem jm_ws_inv {aC : Nat → ClassId} {ba : Nat} {ex : Nat → Nat} {h : jm_H} {i : Nat} {q : Nat × va_E} (hq : (jm_ws aC ba ex h)[i]? = some q) : ∃ s, h.1[i]? = some s ∧ q = (ba + i, jm_ent aC ba ex i s h.2) := by
  have hi : i < h.1.length := by
    have := (List.getElem?_eq_some_iff.mp hq).1
    rw [jm_ws_len] at this
    exact this
  have hs : h.1[i]? = some h.1[i] := List.getElem?_eq_getElem hi
  rw [jm_ws_at hs] at hq
  exact ⟨_, hs, (Option.some.inj hq).symm⟩
theorem jm_ws_D (aC : Nat → ClassId) (ba : Nat) (ex : Nat → Nat) (h : jm_H) : va_D (fun q => ba ≤ q) (jm_ws aC ba ex h) := by
  refine ⟨fun i j p q hp hq hpq => ?_, fun k q hq => ?_⟩
  · obtain ⟨_, -, rfl⟩ := jm_ws_inv hp
    obtain ⟨_, -, rfl⟩ := jm_ws_inv hq
    have h1 : ba + i = ba + j := hpq
    omega
  · obtain ⟨_, -, rfl⟩ := jm_ws_inv hq
    exact Nat.le_add_right ba k
/-- one cell is written -/
theorem jm_ws_set {aC : Nat → ClassId} {ba : Nat} {ex : Nat → Nat} {h h' : jm_H} {i : Nat} {e : va_E} {s' : jm_S} (hl : h'.1.length = h.1.length) (hs : h'.1[i]? = some s') (he : e = jm_ent aC ba ex i s' h'.2) (ho : ∀ j, j ≠ i → h'.1[j]? = h.1[j]? ∧ h'.2 j = h.2 j) :
    (jm_ws aC ba ex h).set i (ba + i, e) = jm_ws aC ba ex h' := by
  apply List.ext_getElem?
  intro j
  by_cases hj : j = i
  · subst hj
    have hlt : j < (jm_ws aC ba ex h).length := by
      rw [jm_ws_len, ← hl]
      exact (List.getElem?_eq_some_iff.mp hs).1
    rw [List.getElem?_set_self hlt, jm_ws_at hs, he]
  · rw [List.getElem?_set_ne (Ne.symm hj)]
    obtain ⟨o1, o2⟩ := ho j hj
    cases hc : h.1[j]? with
    | some s =>
      rw [jm_ws_at hc, jm_ws_at (o1.trans hc)]
      simp only [jm_ent, jm_fs, o2]
    | none =>
      have h1 : h.1.length ≤ j := by simpa using hc
      rw [List.getElem?_eq_none (by rw [jm_ws_len]; exact h1), List.getElem?_eq_none (by rw [jm_ws_len, hl]; exact h1)]
/-- a cell is made -/
theorem jm_ws_new {aC : Nat → ClassId} {ba : Nat} {ex : Nat → Nat} {h : jm_H} {s' : jm_S} {f : Int → Int} : jm_ws aC ba ex h ++ [(ba + h.1.length, jm_ent aC ba ex h.1.length s' (jm_uc h.2 h.1.length f))] = jm_ws aC ba ex (h.1 ++ [s'], jm_uc h.2 h.1.length f) := by
  apply List.ext_getElem?
  intro j
  by_cases hj : j < h.1.length
  · have hc : h.1[j]? = some h.1[j] := List.getElem?_eq_getElem hj
    rw [List.getElem?_append_left (by rw [jm_ws_len]; exact hj), jm_ws_at hc, jm_ws_at (h := (h.1 ++ [s'], jm_uc h.2 h.1.length f)) (s := h.1[j]) (by rw [List.getElem?_append_left hj]; exact hc)]
    have hne : ¬ (j : Int) = (h.1.length : Int) := by omega
    simp only [jm_ent, jm_fs, jm_uc, if_neg hne]
  · rw [List.getElem?_append_right (by rw [jm_ws_len]; omega), jm_ws_len]
    by_cases he : j = h.1.length
    · subst he
      rw [Nat.sub_self, jm_ws_at (h := (h.1 ++ [s'], jm_uc h.2 h.1.length f)) (s := s') (by simp)]
      rfl
    · rw [List.getElem?_eq_none (by simp; omega), List.getElem?_eq_none (by rw [jm_ws_len]; simp; omega)]
def jm_tys (aC : Nat → ClassId) : List (ClassId × FieldType) := [(aC 0, .int), (aC 1, .boolean), (aC 2, .object "MatNations$Mat"), (aC 3, .object "MatNations$Comer"), (aC 4, .object "MatNations$House")]
/-- what the tables say, and which number is which class's -/
def jm_Env (D : va_G) (aC : Nat → ClassId) (U : State) : Prop :=
  (∀ w ∈ lw_tbl, goodWord w = true → ∀ a, w.before a U = true) ∧ (∀ q ∈ jm_nl, va_Nw (jm_nlw q) U) ∧ (va_AO "MatNations$Mat" U ∧ va_AO "MatNations$Comer" U ∧ va_AO "MatNations$House" U) ∧ va_K D vwCl (jm_tys aC) U
theorem jm_Env.warm {D : va_G} {aC : Nat → ClassId} {s U : State} (h : jm_Env D aC s) (hW : s.WarmedH U.vm) : jm_Env D aC U := by
  obtain ⟨h1, h2, ⟨h3, h4, h5⟩, h6⟩ := h
  exact ⟨fun w hw hg a => word_at hW (good_of_word hg) (h1 w hw hg #[]), fun q hq => va_Nw.warmM hW (h2 q hq), ⟨h3.moved hW.alike, h4.moved hW.alike, h5.moved hW.alike⟩, h6.moved hW.alike⟩
/-- the arrays of the start: the script, and the tables of the classes -/
def jm_Ext (ba : Nat) (ex : Nat → Nat) (X : jm_X) (U : State) (H : Heap) : Prop :=
  (∀ k, k < 6 → va_T .int (ex k) (X k).1 (fun j => .int (Int32.ofInt ((X k).2 j))) (fun q => ba ≤ q) U H ∧ (X k).1 < 2147483648 ∧ ∀ j, jm_r ((X k).2 j)) ∧
  ∀ k q, jm_sf[k]? = some q → va_Z q.1 q.2.1 q.2.2 (.ref (ex (k + 1))) (fun q => ba ≤ q) U H
theorem jm_Ext.move {ba : Nat} {ex : Nat → Nat} {X : jm_X} {s U : State} {H H1 : Heap} (h : jm_Ext ba ex X s H) (hv : s.vm.Alike U.vm) (hk : ∀ a : Nat, a < H.size → ¬ (fun q => ba ≤ q) a → H1[a]? = H[a]?) : jm_Ext ba ex X U H1 :=
  ⟨fun k hk6 => ⟨((h.1 k hk6).1.moved hv).kept hk, (h.1 k hk6).2⟩, fun k q hq => ((h.2 k q hq).moved hv).kept hk⟩
def jm_Hp (D : va_G) (aC : Nat → ClassId) (ba : Nat) (ex : Nat → Nat) (h : jm_H) (H : Heap) : Prop := va_P D vwCl (jm_ws aC ba ex h) H ∧ H.size = ba + h.1.length ∧ ∀ i j, jm_r (h.2 i j)
/-- the locals -/
def jm_LR (ba : Nat) (ex : Nat → Nat) (ls : Array Slot) (nL : Nat) (L : jm_L) : Prop := ls.size = nL ∧ lv_wf ls ∧ ∀ (k : Nat) (v : jm_V), L[k]? = some (some v) → ls[k]? = some (.val (jm_rv ba ex v)) ∧ jm_ok v
def jm_as (ba : Nat) (ex : Nat → Nat) (L : jm_L) : List (Nat × Value) := (List.range L.length).filterMap (fun k => match L[k]? with | some (some v) => some (k, jm_rv ba ex v) | _ => none)
theorem jm_as_mem {ba : Nat} {ex : Nat → Nat} {L : jm_L} {q : Nat × Value} : q ∈ jm_as ba ex L ↔ ∃ v, L[q.1]? = some (some v) ∧ q.2 = jm_rv ba ex v := by
  unfold jm_as
  rw [List.mem_filterMap]
  constructor
  · rintro ⟨k, -, hk⟩
    split at hk
    · rename_i v hv
      cases hk
      exact ⟨v, hv, rfl⟩
    · cases hk
  · rintro ⟨v, hv, hq⟩
    refine ⟨q.1, List.mem_range.mpr (List.getElem?_eq_some_iff.mp hv).1, ?_⟩
    rw [hv]
    show some (q.1, jm_rv ba ex v) = some q
    rw [← hq]
theorem jm_LR.has {ba : Nat} {ex : Nat → Nat} {ls : Array Slot} {nL : Nat} {L : jm_L} (h : jm_LR ba ex ls nL L) : lv_has ls nL (jm_as ba ex L) := by
  refine ⟨h.1, h.2.1, fun q hq => ?_⟩
  obtain ⟨v, hv, e⟩ := jm_as_mem.mp hq
  rw [e]
  exact (h.2.2 q.1 v hv).1
theorem jm_set_get : ∀ (L : jm_L) (i : Nat) (v : jm_V) (k : Nat) (w : jm_V), (jm_set L i v)[k]? = some (some w) → (k = i ∧ w = v) ∨ (k ≠ i ∧ L[k]? = some (some w) ∧ ¬ (k + 1 = i ∧ ∃ z, w = .inr (.inl z)))
  | [], i, v, k, w, h => by simp [jm_set] at h
  | o :: r, 0, v, k, w, h => by
    cases k with
    | zero => left; simp [jm_set] at h; exact ⟨rfl, h.symm⟩
    | succ k => right; simp only [jm_set, List.getElem?_cons_succ] at h; exact ⟨by omega, by simpa using h, by omega⟩
  | o :: r, 1, v, k, w, h => by
    cases k with
    | zero =>
      right
      simp only [jm_set, List.getElem?_cons_zero] at h
      refine ⟨by omega, ?_, ?_⟩
      · split at h
        · cases h
        · simpa using h
      · rintro ⟨-, z, rfl⟩
        split at h
        · cases h
        · rename_i hn
          cases Option.some.inj h
          exact hn z rfl
    | succ k =>
      simp only [jm_set, List.getElem?_cons_succ] at h
      rcases jm_set_get r 0 v k w h with ⟨a, b⟩ | ⟨a, b, c⟩
      · left; exact ⟨by omega, b⟩
      · right; exact ⟨by omega, by simpa using b, by omega⟩
  | o :: r, i + 2, v, k, w, h => by
    cases k with
    | zero => right; simp only [jm_set, List.getElem?_cons_zero] at h; exact ⟨by omega, by simpa using h, by omega⟩
    | succ k =>
      simp only [jm_set, List.getElem?_cons_succ] at h
      rcases jm_set_get r (i + 1) v k w h with ⟨a, b⟩ | ⟨a, b, c⟩
      · left; exact ⟨by omega, b⟩
      · right; exact ⟨by omega, by simpa using b, fun q => c ⟨by omega, q.2⟩⟩
theorem jm_cat2 {ba : Nat} {ex : Nat → Nat} {v : jm_V} (h : (jm_rv ba ex v).category = 2) : ∃ z, v = .inr (.inl z) := by
  rcases v with z | z | z
  · cases h
  · exact ⟨z, rfl⟩
  · rw [jm_ref_cat] at h
    cases h
theorem jm_LR.store {ba : Nat} {ex : Nat → Nat} {ls' : Array Slot} {nL i : Nat} {L : jm_L} {v : jm_V} (hv : jm_ok v) (hL : ∀ (k : Nat) (v : jm_V), L[k]? = some (some v) → jm_ok v)
    (h : lv_has ls' nL ((i, jm_rv ba ex v) :: (jm_as ba ex L).filter (fun q => !(q.1 == i) && !(q.1 + 1 == i && q.2.category == 2)))) : jm_LR ba ex ls' nL (jm_set L i v) := by
  refine ⟨h.1, h.2.1, fun k w hw => ?_⟩
  rcases jm_set_get L i v k w hw with ⟨rfl, rfl⟩ | ⟨a, b, c⟩
  · exact ⟨h.2.2 (k, jm_rv ba ex w) List.mem_cons_self, hv⟩
  · refine ⟨h.2.2 (k, jm_rv ba ex w) (List.mem_cons_of_mem _ (List.mem_filter.mpr ⟨jm_as_mem.mpr ⟨w, b, rfl⟩, ?_⟩)), hL k w b⟩
    simp only [Bool.and_eq_true, Bool.not_eq_true', beq_eq_false_iff_ne, ne_eq, Bool.and_eq_false_iff]
    refine ⟨a, ?_⟩
    by_cases hk : k + 1 = i
    · exact Or.inr fun q => c ⟨hk, jm_cat2 q⟩
    · exact Or.inl hk
theorem jm_LR.store2 {ba : Nat} {ex : Nat → Nat} {ls' : Array Slot} {nL i : Nat} {L : jm_L} {v : jm_V} (hv : jm_ok v) (hL : ∀ (k : Nat) (v : jm_V), L[k]? = some (some v) → jm_ok v)
    (h : lv_has ls' nL ((i, jm_rv ba ex v) :: (jm_as ba ex L).filter (fun q => !(q.1 == i) && (!(q.1 == i + 1) && !(q.1 + 1 == i && q.2.category == 2))))) : jm_LR ba ex ls' nL (jm_set2 L i v) := by
  refine ⟨h.1, h.2.1, fun k w hw => ?_⟩
  unfold jm_set2 at hw
  have hk1 : k ≠ i + 1 := by
    intro q
    subst q
    by_cases hlt : i + 1 < (jm_set L i v).length
    · rw [List.getElem?_set_self hlt] at hw; cases hw
    · rw [List.getElem?_eq_none (by simp; omega)] at hw; cases hw
  rw [List.getElem?_set_ne (Ne.symm hk1)] at hw
  rcases jm_set_get L i v k w hw with ⟨rfl, rfl⟩ | ⟨a, b, c⟩
  · exact ⟨h.2.2 (k, jm_rv ba ex w) List.mem_cons_self, hv⟩
  · refine ⟨h.2.2 (k, jm_rv ba ex w) (List.mem_cons_of_mem _ (List.mem_filter.mpr ⟨jm_as_mem.mpr ⟨w, b, rfl⟩, ?_⟩)), hL k w b⟩
    simp only [Bool.and_eq_true, Bool.not_eq_true', beq_eq_false_iff_ne, ne_eq, Bool.and_eq_false_iff]
    refine ⟨a, hk1, ?_⟩
    by_cases hk : k + 1 = i
    · exact Or.inr fun q => c ⟨hk, jm_cat2 q⟩
    · exact Or.inl hk
theorem jm_loc_entry (ba : Nat) (ex : Nat → Nat) : ∀ (vs : List jm_V) (n k : Nat) (v : jm_V), (jm_loc vs)[k]? = some (some v) → (n + k, jm_rv ba ex v) ∈ lv_args n (vs.map (jm_rv ba ex)) ∧ v ∈ vs
  | [], n, k, v, h => by simp [jm_loc] at h
  | .inl z :: r, n, k, v, h => by
    cases k with
    | zero => simp [jm_loc] at h; subst h; exact ⟨by simp [lv_args, jm_rv], by simp⟩
    | succ k =>
      simp only [jm_loc, List.getElem?_cons_succ] at h
      obtain ⟨a, b⟩ := jm_loc_entry ba ex r (n + 1) k v h
      refine ⟨?_, List.mem_cons_of_mem _ b⟩
      have e : n + (k + 1) = n + 1 + k := by omega
      rw [e]
      simp only [List.map_cons, lv_args, jm_rv, Value.category]
      exact List.mem_cons_of_mem _ a
  | .inr (.inl z) :: r, n, k, v, h => by
    match k, h with
    | 0, h => simp [jm_loc] at h; subst h; exact ⟨by simp [lv_args, jm_rv], by simp⟩
    | 1, h => simp [jm_loc] at h
    | k + 2, h =>
      simp only [jm_loc, List.getElem?_cons_succ] at h
      obtain ⟨a, b⟩ := jm_loc_entry ba ex r (n + 2) k v h
      refine ⟨?_, List.mem_cons_of_mem _ b⟩
      have e : n + (k + 2) = n + 2 + k := by omega
      rw [e]
      simp only [List.map_cons, lv_args, jm_rv, Value.category]
      exact List.mem_cons_of_mem _ a
  | .inr (.inr z) :: r, n, k, v, h => by
    cases k with
    | zero => simp [jm_loc] at h; subst h; exact ⟨by simp [lv_args], by simp⟩
    | succ k =>
      simp only [jm_loc, List.getElem?_cons_succ] at h
      obtain ⟨a, b⟩ := jm_loc_entry ba ex r (n + 1) k v h
      refine ⟨?_, List.mem_cons_of_mem _ b⟩
      have e : n + (k + 1) = n + 1 + k := by omega
      rw [e]
      have hc := jm_ref_cat ba ex z
      simp only [List.map_cons, lv_args, hc]
      exact List.mem_cons_of_mem _ a
theorem jm_sl_cons (v : Value) (r : List Value) : lg_sl (v :: r) = (if v.category = 2 then [.val v, .second] else [.val v]) ++ lg_sl r := by simp [lg_sl]
theorem jm_loc_len (ba : Nat) (ex : Nat → Nat) : ∀ vs : List jm_V, (lg_sl (vs.map (jm_rv ba ex))).length = (jm_loc vs).length
  | [] => rfl
  | .inl z :: r => by
    have := jm_loc_len ba ex r
    rw [List.map_cons, jm_sl_cons, List.length_append, this, if_neg (by simp [jm_rv, Value.category])]
    simp only [jm_loc, List.length_cons, List.length_nil]
    omega
  | .inr (.inl z) :: r => by
    have := jm_loc_len ba ex r
    rw [List.map_cons, jm_sl_cons, List.length_append, this, if_pos (by simp [jm_rv, Value.category])]
    simp only [jm_loc, List.length_cons, List.length_nil]
    omega
  | .inr (.inr z) :: r => by
    have := jm_loc_len ba ex r
    have hc := jm_ref_cat ba ex z
    rw [List.map_cons, jm_sl_cons, List.length_append, this, if_neg (by rw [hc]; decide)]
    simp only [jm_loc, List.length_cons, List.length_nil]
    omega
end
section
/-! what the tables give -/
abbrev jm_Ts : List Cond := lw_tbl.filter goodWord
theorem jm_uw_0 : jm_hw (u_ws RX0 TX0 2) [315, 317] = true := by decide +kernel
theorem jm_ug_0 : (u_ws RX0 TX0 2).all goodWord = true := by decide +kernel
theorem jm_ut_0 : ∀ k, k < 2 → ((jm_fty 0 k = 0 ∧ tyX0 k = .int) ∨ (jm_fty 0 k = 1 ∧ tyX0 k = .boolean) ∨ (jm_fty 0 k = 2 ∧ (match tyX0 k with | .object _ => true | .array _ => true | _ => false) = true)) ∧ (TX0 k).1 = RX0 := by decide +kernel
theorem jm_ui_0 : jm_hw [.instantiable RX0 2, .initialized RX0] [308, 79] = true := by decide +kernel
theorem jm_uw_1 : jm_hw (u_ws RX1 TX1 5) [188, 190, 192, 194, 196] = true := by decide +kernel
theorem jm_ug_1 : (u_ws RX1 TX1 5).all goodWord = true := by decide +kernel
theorem jm_ut_1 : ∀ k, k < 5 → ((jm_fty 1 k = 0 ∧ tyX1 k = .int) ∨ (jm_fty 1 k = 1 ∧ tyX1 k = .boolean) ∨ (jm_fty 1 k = 2 ∧ (match tyX1 k with | .object _ => true | .array _ => true | _ => false) = true)) ∧ (TX1 k).1 = RX1 := by decide +kernel
theorem jm_ui_1 : jm_hw [.instantiable RX1 5, .initialized RX1] [158, 75] = true := by decide +kernel
theorem jm_uw_2 : jm_hw (u_ws RX2 TX2 6) [294, 296, 298, 300, 302, 304] = true := by decide +kernel
theorem jm_ug_2 : (u_ws RX2 TX2 6).all goodWord = true := by decide +kernel
theorem jm_ut_2 : ∀ k, k < 6 → ((jm_fty 2 k = 0 ∧ tyX2 k = .int) ∨ (jm_fty 2 k = 1 ∧ tyX2 k = .boolean) ∨ (jm_fty 2 k = 2 ∧ (match tyX2 k with | .object _ => true | .array _ => true | _ => false) = true)) ∧ (TX2 k).1 = RX2 := by decide +kernel
theorem jm_ui_2 : jm_hw [.instantiable RX2 6, .initialized RX2] [279, 78] = true := by decide +kernel
theorem jm_uw_3 : jm_hw (u_ws RX3 TX3 3) [249, 251, 253] = true := by decide +kernel
theorem jm_ug_3 : (u_ws RX3 TX3 3).all goodWord = true := by decide +kernel
theorem jm_ut_3 : ∀ k, k < 3 → ((jm_fty 3 k = 0 ∧ tyX3 k = .int) ∨ (jm_fty 3 k = 1 ∧ tyX3 k = .boolean) ∨ (jm_fty 3 k = 2 ∧ (match tyX3 k with | .object _ => true | .array _ => true | _ => false) = true)) ∧ (TX3 k).1 = RX3 := by decide +kernel
theorem jm_ui_3 : jm_hw [.instantiable RX3 3, .initialized RX3] [241, 76] = true := by decide +kernel
theorem jm_uw_4 : jm_hw (u_ws RX4 TX4 6) [226, 228, 230, 232, 234, 236] = true := by decide +kernel
theorem jm_ug_4 : (u_ws RX4 TX4 6).all goodWord = true := by decide +kernel
theorem jm_ut_4 : ∀ k, k < 6 → ((jm_fty 4 k = 0 ∧ tyX4 k = .int) ∨ (jm_fty 4 k = 1 ∧ tyX4 k = .boolean) ∨ (jm_fty 4 k = 2 ∧ (match tyX4 k with | .object _ => true | .array _ => true | _ => false) = true)) ∧ (TX4 k).1 = RX4 := by decide +kernel
theorem jm_ui_4 : jm_hw [.instantiable RX4 6, .initialized RX4] [129, 73] = true := by decide +kernel
theorem jm_uw_5 : jm_hw (u_ws RX5 TX5 2) [153, 155] = true := by decide +kernel
theorem jm_ug_5 : (u_ws RX5 TX5 2).all goodWord = true := by decide +kernel
theorem jm_ut_5 : ∀ k, k < 2 → ((jm_fty 5 k = 0 ∧ tyX5 k = .int) ∨ (jm_fty 5 k = 1 ∧ tyX5 k = .boolean) ∨ (jm_fty 5 k = 2 ∧ (match tyX5 k with | .object _ => true | .array _ => true | _ => false) = true)) ∧ (TX5 k).1 = RX5 := by decide +kernel
theorem jm_ui_5 : jm_hw [.instantiable RX5 2, .initialized RX5] [138, 74] = true := by decide +kernel
theorem jm_uw_6 : jm_hw (u_ws RX6 TX6 4) [119, 121, 123, 125] = true := by decide +kernel
theorem jm_ug_6 : (u_ws RX6 TX6 4).all goodWord = true := by decide +kernel
theorem jm_ut_6 : ∀ k, k < 4 → ((jm_fty 6 k = 0 ∧ tyX6 k = .int) ∨ (jm_fty 6 k = 1 ∧ tyX6 k = .boolean) ∨ (jm_fty 6 k = 2 ∧ (match tyX6 k with | .object _ => true | .array _ => true | _ => false) = true)) ∧ (TX6 k).1 = RX6 := by decide +kernel
theorem jm_ui_6 : jm_hw [.instantiable RX6 4, .initialized RX6] [110, 72] = true := by decide +kernel
theorem jm_uw_7 : jm_hw (u_ws RX7 TX7 3) [101, 103, 105] = true := by decide +kernel
theorem jm_ug_7 : (u_ws RX7 TX7 3).all goodWord = true := by decide +kernel
theorem jm_ut_7 : ∀ k, k < 3 → ((jm_fty 7 k = 0 ∧ tyX7 k = .int) ∨ (jm_fty 7 k = 1 ∧ tyX7 k = .boolean) ∨ (jm_fty 7 k = 2 ∧ (match tyX7 k with | .object _ => true | .array _ => true | _ => false) = true)) ∧ (TX7 k).1 = RX7 := by decide +kernel
theorem jm_ui_7 : jm_hw [.instantiable RX7 3, .initialized RX7] [93, 71] = true := by decide +kernel
theorem jm_uw_8 : jm_hw (u_ws RX8 TX8 3) [271, 273, 275] = true := by decide +kernel
theorem jm_ug_8 : (u_ws RX8 TX8 3).all goodWord = true := by decide +kernel
theorem jm_ut_8 : ∀ k, k < 3 → ((jm_fty 8 k = 0 ∧ tyX8 k = .int) ∨ (jm_fty 8 k = 1 ∧ tyX8 k = .boolean) ∨ (jm_fty 8 k = 2 ∧ (match tyX8 k with | .object _ => true | .array _ => true | _ => false) = true)) ∧ (TX8 k).1 = RX8 := by decide +kernel
theorem jm_ui_8 : jm_hw [.instantiable RX8 3, .initialized RX8] [258, 77] = true := by decide +kernel
theorem jm_uw_9 : jm_hw (u_ws RX9 TX9 12) [332, 334, 336, 338, 340, 342, 344, 346, 348, 350, 352, 354] = true := by decide +kernel
theorem jm_ug_9 : (u_ws RX9 TX9 12).all goodWord = true := by decide +kernel
theorem jm_ut_9 : ∀ k, k < 12 → ((jm_fty 9 k = 0 ∧ tyX9 k = .int) ∨ (jm_fty 9 k = 1 ∧ tyX9 k = .boolean) ∨ (jm_fty 9 k = 2 ∧ (match tyX9 k with | .object _ => true | .array _ => true | _ => false) = true)) ∧ (TX9 k).1 = RX9 := by decide +kernel
theorem jm_ui_9 : jm_hw [.instantiable RX9 12, .initialized RX9] [85, 70] = true := by decide +kernel
theorem jm_uw_10 : jm_hw (u_ws RX10 TX10 18) [922, 924, 926, 928, 930, 932, 934, 936, 938, 940, 942, 944, 946, 948, 950, 952, 954, 956] = true := by decide +kernel
theorem jm_ug_10 : (u_ws RX10 TX10 18).all goodWord = true := by decide +kernel
theorem jm_ut_10 : ∀ k, k < 18 → ((jm_fty 10 k = 0 ∧ tyX10 k = .int) ∨ (jm_fty 10 k = 1 ∧ tyX10 k = .boolean) ∨ (jm_fty 10 k = 2 ∧ (match tyX10 k with | .object _ => true | .array _ => true | _ => false) = true)) ∧ (TX10 k).1 = RX10 := by decide +kernel
theorem jm_ui_10 : jm_hw [.instantiable RX10 18, .initialized RX10] [899, 80] = true := by decide +kernel
/-- all that is known of class number c -/
def jm_CK (c : Nat) (q : vw_C) : Prop := ∃ ty : Nat → FieldType, (∀ k, k < q.2.2 → parseFieldDescriptor (q.2.1 k).2.2.1 = some (ty k)) ∧ (∀ a, a < q.2.2 → ∀ b, b < q.2.2 → a ≠ b → (q.2.1 a).2.1 ≠ (q.2.1 b).2.1) ∧ (∀ w ∈ u_ws q.1 q.2.1 q.2.2, w ∈ jm_Ts) ∧ (∀ w ∈ [Cond.instantiable q.1 q.2.2, Cond.initialized q.1], w ∈ jm_Ts) ∧
  (∀ k, k < q.2.2 → ((jm_fty c k = 0 ∧ ty k = .int) ∨ (jm_fty c k = 1 ∧ ty k = .boolean) ∨ (jm_fty c k = 2 ∧ (match ty k with | .object _ => true | .array _ => true | _ => false) = true)) ∧ (q.2.1 k).1 = q.1) ∧ q.1 = jm_CN c
theorem jm_in_good {ws : List Cond} {ps : List Nat} (h : jm_hw ws ps = true) (hg : ws.all goodWord = true) : ∀ w ∈ ws, w ∈ jm_Ts := fun w hw => List.mem_filter.mpr ⟨jm_hw_in h w hw, List.all_eq_true.mp hg w hw⟩
theorem jm_ck_0 : jm_CK 0 (RX0, TX0, 2) := ⟨tyX0, tyX0_ok, nmX0, jm_in_good jm_uw_0 jm_ug_0, jm_in_good jm_ui_0 (by decide +kernel), jm_ut_0, by decide +kernel⟩
theorem jm_ck_1 : jm_CK 1 (RX1, TX1, 5) := ⟨tyX1, tyX1_ok, nmX1, jm_in_good jm_uw_1 jm_ug_1, jm_in_good jm_ui_1 (by decide +kernel), jm_ut_1, by decide +kernel⟩
theorem jm_ck_2 : jm_CK 2 (RX2, TX2, 6) := ⟨tyX2, tyX2_ok, nmX2, jm_in_good jm_uw_2 jm_ug_2, jm_in_good jm_ui_2 (by decide +kernel), jm_ut_2, by decide +kernel⟩
theorem jm_ck_3 : jm_CK 3 (RX3, TX3, 3) := ⟨tyX3, tyX3_ok, nmX3, jm_in_good jm_uw_3 jm_ug_3, jm_in_good jm_ui_3 (by decide +kernel), jm_ut_3, by decide +kernel⟩
theorem jm_ck_4 : jm_CK 4 (RX4, TX4, 6) := ⟨tyX4, tyX4_ok, nmX4, jm_in_good jm_uw_4 jm_ug_4, jm_in_good jm_ui_4 (by decide +kernel), jm_ut_4, by decide +kernel⟩
theorem jm_ck_5 : jm_CK 5 (RX5, TX5, 2) := ⟨tyX5, tyX5_ok, nmX5, jm_in_good jm_uw_5 jm_ug_5, jm_in_good jm_ui_5 (by decide +kernel), jm_ut_5, by decide +kernel⟩
theorem jm_ck_6 : jm_CK 6 (RX6, TX6, 4) := ⟨tyX6, tyX6_ok, nmX6, jm_in_good jm_uw_6 jm_ug_6, jm_in_good jm_ui_6 (by decide +kernel), jm_ut_6, by decide +kernel⟩
theorem jm_ck_7 : jm_CK 7 (RX7, TX7, 3) := ⟨tyX7, tyX7_ok, nmX7, jm_in_good jm_uw_7 jm_ug_7, jm_in_good jm_ui_7 (by decide +kernel), jm_ut_7, by decide +kernel⟩
theorem jm_ck_8 : jm_CK 8 (RX8, TX8, 3) := ⟨tyX8, tyX8_ok, nmX8, jm_in_good jm_uw_8 jm_ug_8, jm_in_good jm_ui_8 (by decide +kernel), jm_ut_8, by decide +kernel⟩
theorem jm_ck_9 : jm_CK 9 (RX9, TX9, 12) := ⟨tyX9, tyX9_ok, nmX9, jm_in_good jm_uw_9 jm_ug_9, jm_in_good jm_ui_9 (by decide +kernel), jm_ut_9, by decide +kernel⟩
theorem jm_ck_10 : jm_CK 10 (RX10, TX10, 18) := ⟨tyX10, tyX10_ok, nmX10, jm_in_good jm_uw_10 jm_ug_10, jm_in_good jm_ui_10 (by decide +kernel), jm_ut_10, by decide +kernel⟩
theorem jm_ck : ∀ (c : Nat) (q : vw_C), vwCl[c]? = some q → jm_CK c q
  | 0, _, rfl => jm_ck_0
  | 1, _, rfl => jm_ck_1
  | 2, _, rfl => jm_ck_2
  | 3, _, rfl => jm_ck_3
  | 4, _, rfl => jm_ck_4
  | 5, _, rfl => jm_ck_5
  | 6, _, rfl => jm_ck_6
  | 7, _, rfl => jm_ck_7
  | 8, _, rfl => jm_ck_8
  | 9, _, rfl => jm_ck_9
  | 10, _, rfl => jm_ck_10
  | k + 11, q, h => by simp [vwCl] at h
theorem jm_CN_T (c : Nat) (q : vw_C) (h : vwCl[c]? = some q) : jm_T c = q.2.1 ∧ jm_N c = q.2.2 := by unfold jm_T jm_N; rw [List.getD_eq_getElem?_getD, h]; exact ⟨rfl, rfl⟩
theorem jm_lt_T (c k : Nat) (h : k < jm_N c) : ∃ q, vwCl[c]? = some q := by
  cases hq : vwCl[c]? with
  | some q => exact ⟨q, rfl⟩
  | none => unfold jm_N at h; rw [List.getD_eq_getElem?_getD, hq] at h; exact absurd h (Nat.not_lt_zero k)
theorem jm_mr_0 : ∀ x ∈ [jm_i_X0_init, jm_i_X0_answer, jm_i_X0_traced, jm_i_X0_bodyOf, jm_i_X0_leaveTrace, jm_i_X0_give, jm_i_X1_init, jm_i_X1_takeOver, jm_i_X1_wipes, jm_i_X1_isOf, jm_i_X2_init, jm_i_X2_cleanOnes, jm_i_X2_told, jm_i_X2_seekOrder, jm_i_X2_tryOrders, jm_i_X2_seekLaying, jm_i_X2_tryLayings, jm_i_X2_keepTried, jm_i_X2_fewestBeaten, jm_i_X2_carriedIfBeaten], ∀ w ∈ jm_miw x, w ∈ lw_tbl := List.forall_mem_cons.mpr ⟨jm_hw_in jm_o_X0_init, List.forall_mem_cons.mpr ⟨jm_hw_in jm_o_X0_answer, List.forall_mem_cons.mpr ⟨jm_hw_in jm_o_X0_traced, List.forall_mem_cons.mpr ⟨jm_hw_in jm_o_X0_bodyOf, List.forall_mem_cons.mpr ⟨jm_hw_in jm_o_X0_leaveTrace, List.forall_mem_cons.mpr ⟨jm_hw_in jm_o_X0_give, List.forall_mem_cons.mpr ⟨jm_hw_in jm_o_X1_init, List.forall_mem_cons.mpr ⟨jm_hw_in jm_o_X1_takeOver, List.forall_mem_cons.mpr ⟨jm_hw_in jm_o_X1_wipes, List.forall_mem_cons.mpr ⟨jm_hw_in jm_o_X1_isOf, List.forall_mem_cons.mpr ⟨jm_hw_in jm_o_X2_init, List.forall_mem_cons.mpr ⟨jm_hw_in jm_o_X2_cleanOnes, List.forall_mem_cons.mpr ⟨jm_hw_in jm_o_X2_told, List.forall_mem_cons.mpr ⟨jm_hw_in jm_o_X2_seekOrder, List.forall_mem_cons.mpr ⟨jm_hw_in jm_o_X2_tryOrders, List.forall_mem_cons.mpr ⟨jm_hw_in jm_o_X2_seekLaying, List.forall_mem_cons.mpr ⟨jm_hw_in jm_o_X2_tryLayings, List.forall_mem_cons.mpr ⟨jm_hw_in jm_o_X2_keepTried, List.forall_mem_cons.mpr ⟨jm_hw_in jm_o_X2_fewestBeaten, List.forall_mem_cons.mpr ⟨jm_hw_in jm_o_X2_carriedIfBeaten, fun _ h => absurd h List.not_mem_nil⟩⟩⟩⟩⟩⟩⟩⟩⟩⟩⟩⟩⟩⟩⟩⟩⟩⟩⟩⟩
theorem jm_mr_1 : ∀ x ∈ [jm_i_X2_uniters, jm_i_X2_bindsTo, jm_i_X2_culprits, jm_i_X2_tryAs, jm_i_X2_fitting, jm_i_X2_giveTrait, jm_i_X2_isSoBehind, jm_i_X2_likelihood, jm_i_X2_weight, jm_i_X2_commonDivisor, jm_i_X2_years, jm_i_X3_init, jm_i_X3_isEmpty, jm_i_X3_size, jm_i_X3_forget, jm_i_X3_keep, jm_i_X3_takeBack, jm_i_X4_init, jm_i_X4_clear, jm_i_X4_takeOver], ∀ w ∈ jm_miw x, w ∈ lw_tbl := List.forall_mem_cons.mpr ⟨jm_hw_in jm_o_X2_uniters, List.forall_mem_cons.mpr ⟨jm_hw_in jm_o_X2_bindsTo, List.forall_mem_cons.mpr ⟨jm_hw_in jm_o_X2_culprits, List.forall_mem_cons.mpr ⟨jm_hw_in jm_o_X2_tryAs, List.forall_mem_cons.mpr ⟨jm_hw_in jm_o_X2_fitting, List.forall_mem_cons.mpr ⟨jm_hw_in jm_o_X2_giveTrait, List.forall_mem_cons.mpr ⟨jm_hw_in jm_o_X2_isSoBehind, List.forall_mem_cons.mpr ⟨jm_hw_in jm_o_X2_likelihood, List.forall_mem_cons.mpr ⟨jm_hw_in jm_o_X2_weight, List.forall_mem_cons.mpr ⟨jm_hw_in jm_o_X2_commonDivisor, List.forall_mem_cons.mpr ⟨jm_hw_in jm_o_X2_years, List.forall_mem_cons.mpr ⟨jm_hw_in jm_o_X3_init, List.forall_mem_cons.mpr ⟨jm_hw_in jm_o_X3_isEmpty, List.forall_mem_cons.mpr ⟨jm_hw_in jm_o_X3_size, List.forall_mem_cons.mpr ⟨jm_hw_in jm_o_X3_forget, List.forall_mem_cons.mpr ⟨jm_hw_in jm_o_X3_keep, List.forall_mem_cons.mpr ⟨jm_hw_in jm_o_X3_takeBack, List.forall_mem_cons.mpr ⟨jm_hw_in jm_o_X4_init, List.forall_mem_cons.mpr ⟨jm_hw_in jm_o_X4_clear, List.forall_mem_cons.mpr ⟨jm_hw_in jm_o_X4_takeOver, fun _ h => absurd h List.not_mem_nil⟩⟩⟩⟩⟩⟩⟩⟩⟩⟩⟩⟩⟩⟩⟩⟩⟩⟩⟩⟩
theorem jm_mr_2 : ∀ x ∈ [jm_i_X4_writeCells, jm_i_X4_readCells, jm_i_X4_allComers, jm_i_X4_receive, jm_i_X4_swapWithNext, jm_i_X4_rainOnAll, jm_i_X4_areAtOne, jm_i_X4_pactCount, jm_i_X4_firstPact, jm_i_X4_lyingInAll, jm_i_X4_comings, jm_i_X5_init, jm_i_X5_lying, jm_i_X5_master, jm_i_X5_empty, jm_i_X5_takeOver, jm_i_X6_init, jm_i_X6_isFull, jm_i_X6_size, jm_i_X6_append], ∀ w ∈ jm_miw x, w ∈ lw_tbl := List.forall_mem_cons.mpr ⟨jm_hw_in jm_o_X4_writeCells, List.forall_mem_cons.mpr ⟨jm_hw_in jm_o_X4_readCells, List.forall_mem_cons.mpr ⟨jm_hw_in jm_o_X4_allComers, List.forall_mem_cons.mpr ⟨jm_hw_in jm_o_X4_receive, List.forall_mem_cons.mpr ⟨jm_hw_in jm_o_X4_swapWithNext, List.forall_mem_cons.mpr ⟨jm_hw_in jm_o_X4_rainOnAll, List.forall_mem_cons.mpr ⟨jm_hw_in jm_o_X4_areAtOne, List.forall_mem_cons.mpr ⟨jm_hw_in jm_o_X4_pactCount, List.forall_mem_cons.mpr ⟨jm_hw_in jm_o_X4_firstPact, List.forall_mem_cons.mpr ⟨jm_hw_in jm_o_X4_lyingInAll, List.forall_mem_cons.mpr ⟨jm_hw_in jm_o_X4_comings, List.forall_mem_cons.mpr ⟨jm_hw_in jm_o_X5_init, List.forall_mem_cons.mpr ⟨jm_hw_in jm_o_X5_lying, List.forall_mem_cons.mpr ⟨jm_hw_in jm_o_X5_master, List.forall_mem_cons.mpr ⟨jm_hw_in jm_o_X5_empty, List.forall_mem_cons.mpr ⟨jm_hw_in jm_o_X5_takeOver, List.forall_mem_cons.mpr ⟨jm_hw_in jm_o_X6_init, List.forall_mem_cons.mpr ⟨jm_hw_in jm_o_X6_isFull, List.forall_mem_cons.mpr ⟨jm_hw_in jm_o_X6_size, List.forall_mem_cons.mpr ⟨jm_hw_in jm_o_X6_append, fun _ h => absurd h List.not_mem_nil⟩⟩⟩⟩⟩⟩⟩⟩⟩⟩⟩⟩⟩⟩⟩⟩⟩⟩⟩⟩
theorem jm_mr_3 : ∀ x ∈ [jm_i_X6_place, jm_i_X6_readInto, jm_i_X6_readLaw, jm_i_X6_readMats, jm_i_X6_readComers, jm_i_X6_readTraits, jm_i_X6_sortOf, jm_i_X6_seen, jm_i_X6_refuse, jm_i_X6_takeByte, jm_i_X6_takeNumber, jm_i_X6_isFigure, jm_i_X7_init, jm_i_X7_isMissing, jm_i_X7_sameLane, jm_i_X7_reaches, jm_i_X7_item, jm_i_X7_make, jm_i_X7_put, jm_i_X7_carryOver], ∀ w ∈ jm_miw x, w ∈ lw_tbl := List.forall_mem_cons.mpr ⟨jm_hw_in jm_o_X6_place, List.forall_mem_cons.mpr ⟨jm_hw_in jm_o_X6_readInto, List.forall_mem_cons.mpr ⟨jm_hw_in jm_o_X6_readLaw, List.forall_mem_cons.mpr ⟨jm_hw_in jm_o_X6_readMats, List.forall_mem_cons.mpr ⟨jm_hw_in jm_o_X6_readComers, List.forall_mem_cons.mpr ⟨jm_hw_in jm_o_X6_readTraits, List.forall_mem_cons.mpr ⟨jm_hw_in jm_o_X6_sortOf, List.forall_mem_cons.mpr ⟨jm_hw_in jm_o_X6_seen, List.forall_mem_cons.mpr ⟨jm_hw_in jm_o_X6_refuse, List.forall_mem_cons.mpr ⟨jm_hw_in jm_o_X6_takeByte, List.forall_mem_cons.mpr ⟨jm_hw_in jm_o_X6_takeNumber, List.forall_mem_cons.mpr ⟨jm_hw_in jm_o_X6_isFigure, List.forall_mem_cons.mpr ⟨jm_hw_in jm_o_X7_init, List.forall_mem_cons.mpr ⟨jm_hw_in jm_o_X7_isMissing, List.forall_mem_cons.mpr ⟨jm_hw_in jm_o_X7_sameLane, List.forall_mem_cons.mpr ⟨jm_hw_in jm_o_X7_reaches, List.forall_mem_cons.mpr ⟨jm_hw_in jm_o_X7_item, List.forall_mem_cons.mpr ⟨jm_hw_in jm_o_X7_make, List.forall_mem_cons.mpr ⟨jm_hw_in jm_o_X7_put, List.forall_mem_cons.mpr ⟨jm_hw_in jm_o_X7_carryOver, fun _ h => absurd h List.not_mem_nil⟩⟩⟩⟩⟩⟩⟩⟩⟩⟩⟩⟩⟩⟩⟩⟩⟩⟩⟩⟩
theorem jm_mr_4 : ∀ x ∈ [jm_i_X7_remove, jm_i_X7_present, jm_i_X8_init, jm_i_X8_begin, jm_i_X8_goOver, jm_i_X8_allGoOver, jm_i_X8_lyingInAll, jm_i_X9_init, jm_i_X9_row, jm_i_X9_set, jm_i_X9_copy, jm_i_X9_drop, jm_i_X9_feed, jm_i_X9_hotel, jm_i_X9_fault, jm_i_X9_come, jm_i_X9_beat, jm_i_X9_change, jm_i_X9_rain, jm_i_X9_undo], ∀ w ∈ jm_miw x, w ∈ lw_tbl := List.forall_mem_cons.mpr ⟨jm_hw_in jm_o_X7_remove, List.forall_mem_cons.mpr ⟨jm_hw_in jm_o_X7_present, List.forall_mem_cons.mpr ⟨jm_hw_in jm_o_X8_init, List.forall_mem_cons.mpr ⟨jm_hw_in jm_o_X8_begin, List.forall_mem_cons.mpr ⟨jm_hw_in jm_o_X8_goOver, List.forall_mem_cons.mpr ⟨jm_hw_in jm_o_X8_allGoOver, List.forall_mem_cons.mpr ⟨jm_hw_in jm_o_X8_lyingInAll, List.forall_mem_cons.mpr ⟨jm_hw_in jm_o_X9_init, List.forall_mem_cons.mpr ⟨jm_hw_in jm_o_X9_row, List.forall_mem_cons.mpr ⟨jm_hw_in jm_o_X9_set, List.forall_mem_cons.mpr ⟨jm_hw_in jm_o_X9_copy, List.forall_mem_cons.mpr ⟨jm_hw_in jm_o_X9_drop, List.forall_mem_cons.mpr ⟨jm_hw_in jm_o_X9_feed, List.forall_mem_cons.mpr ⟨jm_hw_in jm_o_X9_hotel, List.forall_mem_cons.mpr ⟨jm_hw_in jm_o_X9_fault, List.forall_mem_cons.mpr ⟨jm_hw_in jm_o_X9_come, List.forall_mem_cons.mpr ⟨jm_hw_in jm_o_X9_beat, List.forall_mem_cons.mpr ⟨jm_hw_in jm_o_X9_change, List.forall_mem_cons.mpr ⟨jm_hw_in jm_o_X9_rain, List.forall_mem_cons.mpr ⟨jm_hw_in jm_o_X9_undo, fun _ h => absurd h List.not_mem_nil⟩⟩⟩⟩⟩⟩⟩⟩⟩⟩⟩⟩⟩⟩⟩⟩⟩⟩⟩⟩
theorem jm_mr_5 : ∀ x ∈ [jm_i_X9_comer, jm_i_X9_mat, jm_i_X9_soil, jm_i_X9_atOne, jm_i_X9_leaves, jm_i_X9_carries, jm_i_X9_clean, jm_i_X9_order, jm_i_X9_laying, jm_i_X9_beating, jm_i_X9_pacts, jm_i_X9_could, jm_i_X9_who, jm_i_X9_fits, jm_i_X9_absent, jm_i_X9_drawn, jm_i_X9_image, jm_i_X9_restore, jm_i_X9_kind, jm_i_X9_as], ∀ w ∈ jm_miw x, w ∈ lw_tbl := List.forall_mem_cons.mpr ⟨jm_hw_in jm_o_X9_comer, List.forall_mem_cons.mpr ⟨jm_hw_in jm_o_X9_mat, List.forall_mem_cons.mpr ⟨jm_hw_in jm_o_X9_soil, List.forall_mem_cons.mpr ⟨jm_hw_in jm_o_X9_atOne, List.forall_mem_cons.mpr ⟨jm_hw_in jm_o_X9_leaves, List.forall_mem_cons.mpr ⟨jm_hw_in jm_o_X9_carries, List.forall_mem_cons.mpr ⟨jm_hw_in jm_o_X9_clean, List.forall_mem_cons.mpr ⟨jm_hw_in jm_o_X9_order, List.forall_mem_cons.mpr ⟨jm_hw_in jm_o_X9_laying, List.forall_mem_cons.mpr ⟨jm_hw_in jm_o_X9_beating, List.forall_mem_cons.mpr ⟨jm_hw_in jm_o_X9_pacts, List.forall_mem_cons.mpr ⟨jm_hw_in jm_o_X9_could, List.forall_mem_cons.mpr ⟨jm_hw_in jm_o_X9_who, List.forall_mem_cons.mpr ⟨jm_hw_in jm_o_X9_fits, List.forall_mem_cons.mpr ⟨jm_hw_in jm_o_X9_absent, List.forall_mem_cons.mpr ⟨jm_hw_in jm_o_X9_drawn, List.forall_mem_cons.mpr ⟨jm_hw_in jm_o_X9_image, List.forall_mem_cons.mpr ⟨jm_hw_in jm_o_X9_restore, List.forall_mem_cons.mpr ⟨jm_hw_in jm_o_X9_kind, List.forall_mem_cons.mpr ⟨jm_hw_in jm_o_X9_as, fun _ h => absurd h List.not_mem_nil⟩⟩⟩⟩⟩⟩⟩⟩⟩⟩⟩⟩⟩⟩⟩⟩⟩⟩⟩⟩
theorem jm_mr_6 : ∀ x ∈ [jm_i_X9_ask, jm_i_X9_trace, jm_i_X9_count, jm_i_X9_status, jm_i_X9_noRow, jm_i_X9_noImage, jm_i_X9_noCarried, jm_i_X9_neither, jm_i_X9_noHotel, jm_i_X9_noComer, jm_i_X9_noMat, jm_i_X9_found, jm_i_X9_unfound, jm_i_X9_matRowFinding, jm_i_X10_init, jm_i_X10_in, jm_i_X10_has, jm_i_X10_bits, jm_i_X10_find, jm_i_X10_well], ∀ w ∈ jm_miw x, w ∈ lw_tbl := List.forall_mem_cons.mpr ⟨jm_hw_in jm_o_X9_ask, List.forall_mem_cons.mpr ⟨jm_hw_in jm_o_X9_trace, List.forall_mem_cons.mpr ⟨jm_hw_in jm_o_X9_count, List.forall_mem_cons.mpr ⟨jm_hw_in jm_o_X9_status, List.forall_mem_cons.mpr ⟨jm_hw_in jm_o_X9_noRow, List.forall_mem_cons.mpr ⟨jm_hw_in jm_o_X9_noImage, List.forall_mem_cons.mpr ⟨jm_hw_in jm_o_X9_noCarried, List.forall_mem_cons.mpr ⟨jm_hw_in jm_o_X9_neither, List.forall_mem_cons.mpr ⟨jm_hw_in jm_o_X9_noHotel, List.forall_mem_cons.mpr ⟨jm_hw_in jm_o_X9_noComer, List.forall_mem_cons.mpr ⟨jm_hw_in jm_o_X9_noMat, List.forall_mem_cons.mpr ⟨jm_hw_in jm_o_X9_found, List.forall_mem_cons.mpr ⟨jm_hw_in jm_o_X9_unfound, List.forall_mem_cons.mpr ⟨jm_hw_in jm_o_X9_matRowFinding, List.forall_mem_cons.mpr ⟨jm_hw_in jm_o_X10_init, List.forall_mem_cons.mpr ⟨jm_hw_in jm_o_X10_in, List.forall_mem_cons.mpr ⟨jm_hw_in jm_o_X10_has, List.forall_mem_cons.mpr ⟨jm_hw_in jm_o_X10_bits, List.forall_mem_cons.mpr ⟨jm_hw_in jm_o_X10_find, List.forall_mem_cons.mpr ⟨jm_hw_in jm_o_X10_well, fun _ h => absurd h List.not_mem_nil⟩⟩⟩⟩⟩⟩⟩⟩⟩⟩⟩⟩⟩⟩⟩⟩⟩⟩⟩⟩
theorem jm_mr_7 : ∀ x ∈ [jm_i_X10_isRow, jm_i_X10_row, jm_i_X10_narrow, jm_i_X10_set, jm_i_X10_isSpan, jm_i_X10_copy, jm_i_X10_drop, jm_i_X10_feed, jm_i_X10_isLetter, jm_i_X10_isFigure, jm_i_X10_refuse, jm_i_X10_sign, jm_i_X10_readsNumber, jm_i_X10_readsLaw, jm_i_X10_readsMat, jm_i_X10_kindOfLetter, jm_i_X10_readsComer, jm_i_X10_isSort, jm_i_X10_reads, jm_i_X10_hotel], ∀ w ∈ jm_miw x, w ∈ lw_tbl := List.forall_mem_cons.mpr ⟨jm_hw_in jm_o_X10_isRow, List.forall_mem_cons.mpr ⟨jm_hw_in jm_o_X10_row, List.forall_mem_cons.mpr ⟨jm_hw_in jm_o_X10_narrow, List.forall_mem_cons.mpr ⟨jm_hw_in jm_o_X10_set, List.forall_mem_cons.mpr ⟨jm_hw_in jm_o_X10_isSpan, List.forall_mem_cons.mpr ⟨jm_hw_in jm_o_X10_copy, List.forall_mem_cons.mpr ⟨jm_hw_in jm_o_X10_drop, List.forall_mem_cons.mpr ⟨jm_hw_in jm_o_X10_feed, List.forall_mem_cons.mpr ⟨jm_hw_in jm_o_X10_isLetter, List.forall_mem_cons.mpr ⟨jm_hw_in jm_o_X10_isFigure, List.forall_mem_cons.mpr ⟨jm_hw_in jm_o_X10_refuse, List.forall_mem_cons.mpr ⟨jm_hw_in jm_o_X10_sign, List.forall_mem_cons.mpr ⟨jm_hw_in jm_o_X10_readsNumber, List.forall_mem_cons.mpr ⟨jm_hw_in jm_o_X10_readsLaw, List.forall_mem_cons.mpr ⟨jm_hw_in jm_o_X10_readsMat, List.forall_mem_cons.mpr ⟨jm_hw_in jm_o_X10_kindOfLetter, List.forall_mem_cons.mpr ⟨jm_hw_in jm_o_X10_readsComer, List.forall_mem_cons.mpr ⟨jm_hw_in jm_o_X10_isSort, List.forall_mem_cons.mpr ⟨jm_hw_in jm_o_X10_reads, List.forall_mem_cons.mpr ⟨jm_hw_in jm_o_X10_hotel, fun _ h => absurd h List.not_mem_nil⟩⟩⟩⟩⟩⟩⟩⟩⟩⟩⟩⟩⟩⟩⟩⟩⟩⟩⟩⟩
theorem jm_mr_8 : ∀ x ∈ [jm_i_X10_fault, jm_i_X10_copyTown, jm_i_X10_keepPast, jm_i_X10_undo, jm_i_X10_isComer, jm_i_X10_isMat, jm_i_X10_liesOn, jm_i_X10_onAll, jm_i_X10_leavesOn, jm_i_X10_comesAt, jm_i_X10_beatsAt, jm_i_X10_areAtOne, jm_i_X10_come, jm_i_X10_beat, jm_i_X10_swapPlaces, jm_i_X10_change, jm_i_X10_rain, jm_i_X10_comer, jm_i_X10_masterOf, jm_i_X10_mat], ∀ w ∈ jm_miw x, w ∈ lw_tbl := List.forall_mem_cons.mpr ⟨jm_hw_in jm_o_X10_fault, List.forall_mem_cons.mpr ⟨jm_hw_in jm_o_X10_copyTown, List.forall_mem_cons.mpr ⟨jm_hw_in jm_o_X10_keepPast, List.forall_mem_cons.mpr ⟨jm_hw_in jm_o_X10_undo, List.forall_mem_cons.mpr ⟨jm_hw_in jm_o_X10_isComer, List.forall_mem_cons.mpr ⟨jm_hw_in jm_o_X10_isMat, List.forall_mem_cons.mpr ⟨jm_hw_in jm_o_X10_liesOn, List.forall_mem_cons.mpr ⟨jm_hw_in jm_o_X10_onAll, List.forall_mem_cons.mpr ⟨jm_hw_in jm_o_X10_leavesOn, List.forall_mem_cons.mpr ⟨jm_hw_in jm_o_X10_comesAt, List.forall_mem_cons.mpr ⟨jm_hw_in jm_o_X10_beatsAt, List.forall_mem_cons.mpr ⟨jm_hw_in jm_o_X10_areAtOne, List.forall_mem_cons.mpr ⟨jm_hw_in jm_o_X10_come, List.forall_mem_cons.mpr ⟨jm_hw_in jm_o_X10_beat, List.forall_mem_cons.mpr ⟨jm_hw_in jm_o_X10_swapPlaces, List.forall_mem_cons.mpr ⟨jm_hw_in jm_o_X10_change, List.forall_mem_cons.mpr ⟨jm_hw_in jm_o_X10_rain, List.forall_mem_cons.mpr ⟨jm_hw_in jm_o_X10_comer, List.forall_mem_cons.mpr ⟨jm_hw_in jm_o_X10_masterOf, List.forall_mem_cons.mpr ⟨jm_hw_in jm_o_X10_mat, fun _ h => absurd h List.not_mem_nil⟩⟩⟩⟩⟩⟩⟩⟩⟩⟩⟩⟩⟩⟩⟩⟩⟩⟩⟩⟩
theorem jm_mr_9 : ∀ x ∈ [jm_i_X10_soil, jm_i_X10_atOne, jm_i_X10_layTried, jm_i_X10_carriesIf, jm_i_X10_leaves, jm_i_X10_carries, jm_i_X10_clean, jm_i_X10_layLine, jm_i_X10_swapLine, jm_i_X10_takeLine, jm_i_X10_nextLine, jm_i_X10_comeAll, jm_i_X10_order, jm_i_X10_layMats, jm_i_X10_laying, jm_i_X10_beating, jm_i_X10_pacts, jm_i_X10_could, jm_i_X10_noItems, jm_i_X10_isSo], ∀ w ∈ jm_miw x, w ∈ lw_tbl := List.forall_mem_cons.mpr ⟨jm_hw_in jm_o_X10_soil, List.forall_mem_cons.mpr ⟨jm_hw_in jm_o_X10_atOne, List.forall_mem_cons.mpr ⟨jm_hw_in jm_o_X10_layTried, List.forall_mem_cons.mpr ⟨jm_hw_in jm_o_X10_carriesIf, List.forall_mem_cons.mpr ⟨jm_hw_in jm_o_X10_leaves, List.forall_mem_cons.mpr ⟨jm_hw_in jm_o_X10_carries, List.forall_mem_cons.mpr ⟨jm_hw_in jm_o_X10_clean, List.forall_mem_cons.mpr ⟨jm_hw_in jm_o_X10_layLine, List.forall_mem_cons.mpr ⟨jm_hw_in jm_o_X10_swapLine, List.forall_mem_cons.mpr ⟨jm_hw_in jm_o_X10_takeLine, List.forall_mem_cons.mpr ⟨jm_hw_in jm_o_X10_nextLine, List.forall_mem_cons.mpr ⟨jm_hw_in jm_o_X10_comeAll, List.forall_mem_cons.mpr ⟨jm_hw_in jm_o_X10_order, List.forall_mem_cons.mpr ⟨jm_hw_in jm_o_X10_layMats, List.forall_mem_cons.mpr ⟨jm_hw_in jm_o_X10_laying, List.forall_mem_cons.mpr ⟨jm_hw_in jm_o_X10_beating, List.forall_mem_cons.mpr ⟨jm_hw_in jm_o_X10_pacts, List.forall_mem_cons.mpr ⟨jm_hw_in jm_o_X10_could, List.forall_mem_cons.mpr ⟨jm_hw_in jm_o_X10_noItems, List.forall_mem_cons.mpr ⟨jm_hw_in jm_o_X10_isSo, fun _ h => absurd h List.not_mem_nil⟩⟩⟩⟩⟩⟩⟩⟩⟩⟩⟩⟩⟩⟩⟩⟩⟩⟩⟩⟩
theorem jm_mr_10 : ∀ x ∈ [jm_i_X10_who, jm_i_X10_fits, jm_i_X10_absent, jm_i_X10_drawn, jm_i_X10_image, jm_i_X10_restore, jm_i_X10_kind, jm_i_X10_isOf, jm_i_X10_as, jm_i_X10_begin, jm_i_X10_lentSize, jm_i_X10_wiperSize, jm_i_X10_stamperSize, jm_i_X10_sizeOf, jm_i_X10_lentMark, jm_i_X10_wiperMark, jm_i_X10_mark, jm_i_X10_stamperMark, jm_i_X10_ask, jm_i_X10_trace], ∀ w ∈ jm_miw x, w ∈ lw_tbl := List.forall_mem_cons.mpr ⟨jm_hw_in jm_o_X10_who, List.forall_mem_cons.mpr ⟨jm_hw_in jm_o_X10_fits, List.forall_mem_cons.mpr ⟨jm_hw_in jm_o_X10_absent, List.forall_mem_cons.mpr ⟨jm_hw_in jm_o_X10_drawn, List.forall_mem_cons.mpr ⟨jm_hw_in jm_o_X10_image, List.forall_mem_cons.mpr ⟨jm_hw_in jm_o_X10_restore, List.forall_mem_cons.mpr ⟨jm_hw_in jm_o_X10_kind, List.forall_mem_cons.mpr ⟨jm_hw_in jm_o_X10_isOf, List.forall_mem_cons.mpr ⟨jm_hw_in jm_o_X10_as, List.forall_mem_cons.mpr ⟨jm_hw_in jm_o_X10_begin, List.forall_mem_cons.mpr ⟨jm_hw_in jm_o_X10_lentSize, List.forall_mem_cons.mpr ⟨jm_hw_in jm_o_X10_wiperSize, List.forall_mem_cons.mpr ⟨jm_hw_in jm_o_X10_stamperSize, List.forall_mem_cons.mpr ⟨jm_hw_in jm_o_X10_sizeOf, List.forall_mem_cons.mpr ⟨jm_hw_in jm_o_X10_lentMark, List.forall_mem_cons.mpr ⟨jm_hw_in jm_o_X10_wiperMark, List.forall_mem_cons.mpr ⟨jm_hw_in jm_o_X10_mark, List.forall_mem_cons.mpr ⟨jm_hw_in jm_o_X10_stamperMark, List.forall_mem_cons.mpr ⟨jm_hw_in jm_o_X10_ask, List.forall_mem_cons.mpr ⟨jm_hw_in jm_o_X10_trace, fun _ h => absurd h List.not_mem_nil⟩⟩⟩⟩⟩⟩⟩⟩⟩⟩⟩⟩⟩⟩⟩⟩⟩⟩⟩⟩
theorem jm_mr_11 : ∀ x ∈ [jm_i_X10_comings, jm_i_X10_count, jm_i_X10_status, jm_i_J6_bitCount_0f7a4], ∀ w ∈ jm_miw x, w ∈ lw_tbl := List.forall_mem_cons.mpr ⟨jm_hw_in jm_o_X10_comings, List.forall_mem_cons.mpr ⟨jm_hw_in jm_o_X10_count, List.forall_mem_cons.mpr ⟨jm_hw_in jm_o_X10_status, List.forall_mem_cons.mpr ⟨jm_hw_in jm_o_J6_bitCount_0f7a4, fun _ h => absurd h List.not_mem_nil⟩⟩⟩⟩
def jm_mq : List jm_I := [jm_i_X0_init, jm_i_X0_answer, jm_i_X0_traced, jm_i_X0_bodyOf, jm_i_X0_leaveTrace, jm_i_X0_give, jm_i_X1_init, jm_i_X1_takeOver, jm_i_X1_wipes, jm_i_X1_isOf, jm_i_X2_init, jm_i_X2_cleanOnes, jm_i_X2_told, jm_i_X2_seekOrder, jm_i_X2_tryOrders, jm_i_X2_seekLaying, jm_i_X2_tryLayings, jm_i_X2_keepTried, jm_i_X2_fewestBeaten, jm_i_X2_carriedIfBeaten] ++ ([jm_i_X2_uniters, jm_i_X2_bindsTo, jm_i_X2_culprits, jm_i_X2_tryAs, jm_i_X2_fitting, jm_i_X2_giveTrait, jm_i_X2_isSoBehind, jm_i_X2_likelihood, jm_i_X2_weight, jm_i_X2_commonDivisor, jm_i_X2_years, jm_i_X3_init, jm_i_X3_isEmpty, jm_i_X3_size, jm_i_X3_forget, jm_i_X3_keep, jm_i_X3_takeBack, jm_i_X4_init, jm_i_X4_clear, jm_i_X4_takeOver] ++ ([jm_i_X4_writeCells, jm_i_X4_readCells, jm_i_X4_allComers, jm_i_X4_receive, jm_i_X4_swapWithNext, jm_i_X4_rainOnAll, jm_i_X4_areAtOne, jm_i_X4_pactCount, jm_i_X4_firstPact, jm_i_X4_lyingInAll, jm_i_X4_comings, jm_i_X5_init, jm_i_X5_lying, jm_i_X5_master, jm_i_X5_empty, jm_i_X5_takeOver, jm_i_X6_init, jm_i_X6_isFull, jm_i_X6_size, jm_i_X6_append] ++ ([jm_i_X6_place, jm_i_X6_readInto, jm_i_X6_readLaw, jm_i_X6_readMats, jm_i_X6_readComers, jm_i_X6_readTraits, jm_i_X6_sortOf, jm_i_X6_seen, jm_i_X6_refuse, jm_i_X6_takeByte, jm_i_X6_takeNumber, jm_i_X6_isFigure, jm_i_X7_init, jm_i_X7_isMissing, jm_i_X7_sameLane, jm_i_X7_reaches, jm_i_X7_item, jm_i_X7_make, jm_i_X7_put, jm_i_X7_carryOver] ++ ([jm_i_X7_remove, jm_i_X7_present, jm_i_X8_init, jm_i_X8_begin, jm_i_X8_goOver, jm_i_X8_allGoOver, jm_i_X8_lyingInAll, jm_i_X9_init, jm_i_X9_row, jm_i_X9_set, jm_i_X9_copy, jm_i_X9_drop, jm_i_X9_feed, jm_i_X9_hotel, jm_i_X9_fault, jm_i_X9_come, jm_i_X9_beat, jm_i_X9_change, jm_i_X9_rain, jm_i_X9_undo] ++ ([jm_i_X9_comer, jm_i_X9_mat, jm_i_X9_soil, jm_i_X9_atOne, jm_i_X9_leaves, jm_i_X9_carries, jm_i_X9_clean, jm_i_X9_order, jm_i_X9_laying, jm_i_X9_beating, jm_i_X9_pacts, jm_i_X9_could, jm_i_X9_who, jm_i_X9_fits, jm_i_X9_absent, jm_i_X9_drawn, jm_i_X9_image, jm_i_X9_restore, jm_i_X9_kind, jm_i_X9_as] ++ ([jm_i_X9_ask, jm_i_X9_trace, jm_i_X9_count, jm_i_X9_status, jm_i_X9_noRow, jm_i_X9_noImage, jm_i_X9_noCarried, jm_i_X9_neither, jm_i_X9_noHotel, jm_i_X9_noComer, jm_i_X9_noMat, jm_i_X9_found, jm_i_X9_unfound, jm_i_X9_matRowFinding, jm_i_X10_init, jm_i_X10_in, jm_i_X10_has, jm_i_X10_bits, jm_i_X10_find, jm_i_X10_well] ++ ([jm_i_X10_isRow, jm_i_X10_row, jm_i_X10_narrow, jm_i_X10_set, jm_i_X10_isSpan, jm_i_X10_copy, jm_i_X10_drop, jm_i_X10_feed, jm_i_X10_isLetter, jm_i_X10_isFigure, jm_i_X10_refuse, jm_i_X10_sign, jm_i_X10_readsNumber, jm_i_X10_readsLaw, jm_i_X10_readsMat, jm_i_X10_kindOfLetter, jm_i_X10_readsComer, jm_i_X10_isSort, jm_i_X10_reads, jm_i_X10_hotel] ++ ([jm_i_X10_fault, jm_i_X10_copyTown, jm_i_X10_keepPast, jm_i_X10_undo, jm_i_X10_isComer, jm_i_X10_isMat, jm_i_X10_liesOn, jm_i_X10_onAll, jm_i_X10_leavesOn, jm_i_X10_comesAt, jm_i_X10_beatsAt, jm_i_X10_areAtOne, jm_i_X10_come, jm_i_X10_beat, jm_i_X10_swapPlaces, jm_i_X10_change, jm_i_X10_rain, jm_i_X10_comer, jm_i_X10_masterOf, jm_i_X10_mat] ++ ([jm_i_X10_soil, jm_i_X10_atOne, jm_i_X10_layTried, jm_i_X10_carriesIf, jm_i_X10_leaves, jm_i_X10_carries, jm_i_X10_clean, jm_i_X10_layLine, jm_i_X10_swapLine, jm_i_X10_takeLine, jm_i_X10_nextLine, jm_i_X10_comeAll, jm_i_X10_order, jm_i_X10_layMats, jm_i_X10_laying, jm_i_X10_beating, jm_i_X10_pacts, jm_i_X10_could, jm_i_X10_noItems, jm_i_X10_isSo] ++ ([jm_i_X10_who, jm_i_X10_fits, jm_i_X10_absent, jm_i_X10_drawn, jm_i_X10_image, jm_i_X10_restore, jm_i_X10_kind, jm_i_X10_isOf, jm_i_X10_as, jm_i_X10_begin, jm_i_X10_lentSize, jm_i_X10_wiperSize, jm_i_X10_stamperSize, jm_i_X10_sizeOf, jm_i_X10_lentMark, jm_i_X10_wiperMark, jm_i_X10_mark, jm_i_X10_stamperMark, jm_i_X10_ask, jm_i_X10_trace] ++ ([jm_i_X10_comings, jm_i_X10_count, jm_i_X10_status, jm_i_J6_bitCount_0f7a4])))))))))))
theorem jm_mq_w : ∀ x ∈ jm_mq, ∀ w ∈ jm_miw x, w ∈ lw_tbl := fun x h => (List.mem_append.mp h).elim (jm_mr_0 x) ((fun x h => (List.mem_append.mp h).elim (jm_mr_1 x) ((fun x h => (List.mem_append.mp h).elim (jm_mr_2 x) ((fun x h => (List.mem_append.mp h).elim (jm_mr_3 x) ((fun x h => (List.mem_append.mp h).elim (jm_mr_4 x) ((fun x h => (List.mem_append.mp h).elim (jm_mr_5 x) ((fun x h => (List.mem_append.mp h).elim (jm_mr_6 x) ((fun x h => (List.mem_append.mp h).elim (jm_mr_7 x) ((fun x h => (List.mem_append.mp h).elim (jm_mr_8 x) ((fun x h => (List.mem_append.mp h).elim (jm_mr_9 x) ((fun x h => (List.mem_append.mp h).elim (jm_mr_10 x) ((jm_mr_11) x)) x)) x)) x)) x)) x)) x)) x)) x)) x)) x)
def jm_mok (x : jm_I) : Bool := (jm_miw x).all goodWord && (plainName x.1.cls && (decide (x.1.cls ≠ "java/lang/invoke/MethodHandle") && (decide (x.1.cls ≠ "java/lang/invoke/VarHandle") && (decide ((parseMethodDescriptor x.1.desc).map (fun d => d.parameters.length) = some x.2.2.2.2.2.1) && (decide (x.2.2.1 ≤ 45) && (decide (jm_CN x.2.2.2.2.1 = x.1.cls) && (decide (x.2.2.2.2.2.2.1 ≤ 2) && (decide (x.2.2.2.2.2.2.1 = 2 → x.1.name = "<init>" ∧ x.2.2.2.1 = none) && decide (x.2.2.2.2.2.2.1 = 2 ∨ (x.2.2.2.2.2.2.2.1 = 0 ∧ x.2.2.2.2.2.2.2.2.1 = 0))))))))))
theorem jm_mq_ok : jm_mq.all jm_mok = true := by decide +kernel
theorem jm_mq_at : ∀ n, n < 224 → jm_mi.getD n jm_d0 = jm_mq.getD n jm_d0 := by
  intro n hn
  have h : jm_mi = jm_mq ++ [jm_i_L_law] := rfl
  rw [h, List.getD_eq_getElem?_getD, List.getD_eq_getElem?_getD, List.getElem?_append_left (by exact hn)]
theorem jm_mq_mem (n : Nat) (hn : n < 224) : jm_in n ∈ jm_mq := by
  unfold jm_in
  rw [jm_mq_at n hn, List.getD_eq_getElem?_getD]
  have hl : n < jm_mq.length := hn
  rw [List.getElem?_eq_getElem hl]
  exact List.getElem_mem hl
end
section
/-! a program of the small machine beside a method's bytes: what is looked at once, by counting -/
def jm_go (P : List jm_E) (t pc : Nat) : Bool := match P[t]? with
  | some e => e.1 == pc
  | none => false
theorem jm_go_spec {P : List jm_E} {t pc : Nat} (h : jm_go P t pc = true) : ∃ e, P[t]? = some e ∧ e.1 = pc := by
  unfold jm_go at h
  split at h
  · rename_i e he
    exact ⟨e, he, by simpa using h⟩
  · cases h
def jm_jmp (P : List jm_E) (pc : Nat) (off t : Int) : Bool := match P[t.toNat]? with
  | some e => decide ((pc : Int) + off = (e.1 : Int))
  | none => false
theorem jm_jmp_spec {P : List jm_E} {pc : Nat} {off t : Int} (h : jm_jmp P pc off t = true) : ∃ e, P[t.toNat]? = some e ∧ (pc : Int) + off = (e.1 : Int) := by
  unfold jm_jmp at h
  split at h
  · rename_i e he
    exact ⟨e, he, of_decide_eq_true h⟩
  · cases h
def jm_c (P : List jm_E) (i : Nat) (e : jm_E) (k : Nat) : Bool := e.2.2.1 == k && jm_go P (i + 1) (e.1 + k)
def jm_ckt (P : List jm_E) (pc : Nat) (d : Int) : Int → List Int → List Int → Bool
  | _, [], [t] => jm_jmp P pc d t
  | v, o :: os, w :: t :: r => w == v && (jm_jmp P pc o t && jm_ckt P pc d (v + 1) os r)
  | _, _, _ => false
def jm_ckl (P : List jm_E) (pc : Nat) (d : Int) : List (Int × Int) → List Int → Bool
  | [], [t] => jm_jmp P pc d t
  | q :: os, w :: t :: r => w == q.1 && (jm_jmp P pc q.2 t && jm_ckl P pc d os r)
  | _, _ => false
theorem jm_ckt_spec {P : List jm_E} {pc : Nat} {d a : Int} {K : Nat → Prop} : ∀ (v : Int) (os r : List Int), jm_ckt P pc d v os r = true → jm_sw K a r →
    (∃ (j : Nat) (off t : Int), a = v + j ∧ os[j]? = some off ∧ jm_jmp P pc off t = true ∧ K t.toNat) ∨ ((a < v ∨ v + os.length ≤ a) ∧ ∃ t, jm_jmp P pc d t = true ∧ K t.toNat)
  | v, [], [t], h, hs => by
    refine Or.inr ⟨?_, t, h, hs⟩
    simp only [List.length_nil]
    omega
  | v, o :: os, w :: t :: r, h, hs => by
    simp only [jm_ckt, Bool.and_eq_true, beq_iff_eq] at h
    obtain ⟨rfl, h1, h2⟩ := h
    by_cases ha : a = w
    · exact Or.inl ⟨0, o, t, by omega, rfl, h1, hs.1 ha⟩
    · rcases jm_ckt_spec (w + 1) os r h2 (hs.2 ha) with ⟨j, off, t', e1, e2, e3⟩ | ⟨e1, e2⟩
      · exact Or.inl ⟨j + 1, off, t', by omega, by simpa using e2, e3⟩
      · refine Or.inr ⟨?_, e2⟩
        simp only [List.length_cons]
        omega
  | v, [], [], h, hs => hs.elim
  | v, [], _ :: _ :: _, h, hs => by simp [jm_ckt] at h
  | v, _ :: _, [], h, hs => hs.elim
  | v, _ :: _, [_], h, hs => by simp [jm_ckt] at h
theorem jm_ckl_spec {P : List jm_E} {pc : Nat} {d a : Int} {K : Nat → Prop} : ∀ (os : List (Int × Int)) (r : List Int), jm_ckl P pc d os r = true → jm_sw K a r →
    ∃ t, jm_jmp P pc (Op.lookupswitch.offset os d a) t = true ∧ K t.toNat
  | [], [t], h, hs => ⟨t, h, hs⟩
  | q :: os, w :: t :: r, h, hs => by
    simp only [jm_ckl, Bool.and_eq_true, beq_iff_eq] at h
    obtain ⟨rfl, h1, h2⟩ := h
    obtain ⟨q1, q2⟩ := q
    rw [Op.lookupswitch.offset_cons]
    by_cases ha : a = q1
    · rw [if_pos (by first | exact ha.symm | exact ha)]
      exact ⟨t, h1, hs.1 ha⟩
    · rw [if_neg (by first | exact fun z => ha z.symm | exact ha)]
      exact jm_ckl_spec os r h2 (hs.2 ha)
  | [], [], h, hs => hs.elim
  | [], _ :: _ :: _, h, hs => by simp [jm_ckl] at h
  | _ :: _, [], h, hs => hs.elim
  | _ :: _, [_], h, hs => by simp [jm_ckl] at h
def jm_chk (n : Nat) (P : List jm_E) (i : Nat) (e : jm_E) : Bool :=
  match e.2.1 with
  | .iconst v => jm_c P i e 1 && decide (jm_r v)
  | .bipush v => jm_c P i e 2 && (decide (jm_r v) && decide ((Int8.ofInt v).toInt32 = Int32.ofInt v))
  | .sipush v => jm_c P i e 3 && (decide (jm_r v) && decide ((Int16.ofInt v).toInt32 = Int32.ofInt v))
  | .ldc x => jm_c P i e 2 && (match e.2.2.2 with
    | [v] => decide (jm_r v) && jm_kl.any (fun q => q.1 == jm_ow n && (q.2.1 == x && q.2.2.1 == v))
    | _ => false)
  | .ldc_w x => jm_c P i e 3 && (match e.2.2.2 with
    | [v] => decide (jm_r v) && jm_kl.any (fun q => q.1 == jm_ow n && (q.2.1 == x && q.2.2.1 == v))
    | _ => false)
  | .ldc2_w x => jm_c P i e 3 && (match e.2.2.2 with
    | [v] => decide (jm_rl v) && jm_jl.any (fun q => q.1 == jm_ow n && (q.2.1 == x && q.2.2.1 == v))
    | _ => false)
  | .lconst _ => jm_c P i e 1
  | .iload _ => jm_c P i e 2
  | .iload_n _ => jm_c P i e 1
  | .lload _ => jm_c P i e 2
  | .lload_n _ => jm_c P i e 1
  | .aload _ => jm_c P i e 2
  | .aload_n _ => jm_c P i e 1
  | .istore k => jm_c P i e 2 && decide (k < jm_ma n)
  | .istore_n k => jm_c P i e 1 && decide (k.val < jm_ma n)
  | .lstore k => jm_c P i e 2 && decide (k + 1 < jm_ma n)
  | .lstore_n k => jm_c P i e 1 && decide (k.val + 1 < jm_ma n)
  | .astore k => jm_c P i e 2 && decide (k < jm_ma n)
  | .astore_n k => jm_c P i e 1 && decide (k.val < jm_ma n)
  | .iinc k _ => jm_c P i e 3 && decide (k < jm_ma n)
  | .iadd => jm_c P i e 1
  | .isub => jm_c P i e 1
  | .imul => jm_c P i e 1
  | .idiv => jm_c P i e 1
  | .irem => jm_c P i e 1
  | .ineg => jm_c P i e 1
  | .iand => jm_c P i e 1
  | .ior => jm_c P i e 1
  | .ixor => jm_c P i e 1
  | .ishl => jm_c P i e 1
  | .ishr => jm_c P i e 1
  | .iushr => jm_c P i e 1
  | .i2l => jm_c P i e 1
  | .l2i => jm_c P i e 1
  | .i2b => jm_c P i e 1
  | .i2s => jm_c P i e 1
  | .ladd => jm_c P i e 1
  | .lmul => jm_c P i e 1
  | .lrem => jm_c P i e 1
  | .lcmp => jm_c P i e 1
  | .dup => jm_c P i e 1
  | .dup2 => jm_c P i e 1
  | .pop => jm_c P i e 1
  | .ifCond _ off => jm_c P i e 3 && (match e.2.2.2 with
    | [t] => jm_jmp P e.1 off t
    | _ => false)
  | .if_icmp _ off => jm_c P i e 3 && (match e.2.2.2 with
    | [t] => jm_jmp P e.1 off t
    | _ => false)
  | .goto off => e.2.2.1 == 3 && (match e.2.2.2 with
    | [t] => jm_jmp P e.1 off t
    | _ => false)
  | .tableswitch d lo hi offs => decide (hi + 1 = lo + offs.toList.length) && jm_ckt P e.1 d lo offs.toList e.2.2.2
  | .lookupswitch d ps => (ps.toList.zip (ps.toList.drop 1)).all (fun (a, next) => a.1 < next.1) && jm_ckl P e.1 d ps.toList e.2.2.2
  | .getfield x => jm_c P i e 3 && (match e.2.2.2 with
    | [c, k, t] => decide (0 ≤ k ∧ t = (jm_fty c.toNat k.toNat : Int)) && jm_fl.any (fun q => q.1 == jm_ow n && (q.2.1 == x && (q.2.2.1 == c.toNat && q.2.2.2.1 == k.toNat)))
    | _ => false)
  | .putfield x => jm_c P i e 3 && (match e.2.2.2 with
    | [c, k, t] => decide (0 ≤ k ∧ t = (jm_fty c.toNat k.toNat : Int)) && (jm_fl.any (fun q => q.1 == jm_ow n && (q.2.1 == x && (q.2.2.1 == c.toNat && q.2.2.2.1 == k.toNat))) && ((jm_T c.toNat k.toNat).2.2.2 == false || (jm_ki n == 2 && jm_ow n == c.toNat)))
    | _ => false)
  | .getstatic x => jm_c P i e 3 && (match e.2.2.2 with
    | [k] => decide (k ≤ -3) && jm_sl.any (fun q => q.1 == jm_ow n && (q.2.1 == x && q.2.2.1 == (-3 - k).toNat))
    | _ => false)
  | .iaload => jm_c P i e 1
  | .baload => jm_c P i e 1
  | .aaload => jm_c P i e 1
  | .iastore => jm_c P i e 1
  | .bastore => jm_c P i e 1
  | .aastore => jm_c P i e 1
  | .arraylength => jm_c P i e 1
  | .newarray _ => jm_c P i e 2
  | .anewarray x => jm_c P i e 3 && (match e.2.2.2 with
    | [k] => jm_cl.any (fun q => q.1 == jm_ow n && (q.2.1 == x && ((k == 2 && q.2.2.1 == 5) || ((k == 3 && q.2.2.1 == 1) || (k == 4 && q.2.2.1 == 4)))))
    | _ => false)
  | .new x => jm_c P i e 3 && (match e.2.2.2 with
    | [c, w] => decide (w = (jm_N c.toNat : Int) ∧ c.toNat < 11) && jm_cl.any (fun q => q.1 == jm_ow n && (q.2.1 == x && q.2.2.1 == c.toNat))
    | _ => false)
  | .invokevirtual x => jm_c P i e 3 && (match e.2.2.2 with
    | [f, a, c] => decide (f.toNat < 224 ∧ jm_ki f.toNat = 0 ∧ jm_pa f.toNat = a.toNat ∧ c.toNat = jm_ow f.toNat ∧ c.toNat < 11) && jm_ml.any (fun q => q.1 == jm_ow n && (q.2.1 == x && q.2.2.1 == f.toNat))
    | _ => false)
  | .invokestatic x => jm_c P i e 3 && (match e.2.2.2 with
    | [f, a] => decide (f.toNat < 224 ∧ jm_ki f.toNat = 1 ∧ jm_pa f.toNat = a.toNat) && jm_ml.any (fun q => q.1 == jm_ow n && (q.2.1 == x && q.2.2.1 == f.toNat))
    | [_] => jm_xl.any (fun q => q.1 == jm_ow n && q.2.1 == x)
    | [] => jm_yl.any (fun q => q.1 == jm_ow n && q.2.1 == x)
    | _ => false)
  | .invokespecial x => jm_c P i e 3 && (match e.2.2.2 with
    | [f, a, b] => decide (f.toNat < 224 ∧ jm_ki f.toNat = 2 ∧ jm_pa f.toNat = 0 ∧ jm_mc f.toNat = a.toNat ∧ jm_ms f.toNat = b.toNat) && (jm_ml.any (fun q => q.1 == jm_ow n && (q.2.1 == x && q.2.2.1 == f.toNat)) || jm_nl.any (fun q => q.1 == jm_ow n && (q.2.1 == x && q.2.2.1 == f.toNat)))
    | [] => jm_ol.any (fun q => q.1 == jm_ow n && q.2.1 == x)
    | _ => false)
  | .ireturn => e.2.2.1 == 1 && (match e.2.2.2 with
    | [t] => decide ((t = 0 ∧ jm_re n = some .int) ∨ (t = 1 ∧ jm_re n = some .boolean))
    | _ => false)
  | .return_ => e.2.2.1 == 1 && decide (jm_re n = none)
  | _ => false
def jm_ckD (n : Nat) (P : List jm_E) : Bool := P.all (fun e => decide (decode (jm_co n) e.1 = .ok (e.2.1, e.2.2.1)))
def jm_ckP (n : Nat) (P : List jm_E) : Bool := P.zipIdx.all (fun q => jm_chk n P q.2 q.1)
theorem jm_ckD_spec {n : Nat} {P : List jm_E} (h : jm_ckD n P = true) {i : Nat} {e : jm_E} (he : P[i]? = some e) : decode (jm_co n) e.1 = .ok (e.2.1, e.2.2.1) := of_decide_eq_true (List.all_eq_true.mp h e (List.mem_of_getElem? he))
theorem jm_ckP_spec {n : Nat} {P : List jm_E} (h : jm_ckP n P = true) {i : Nat} {e : jm_E} (he : P[i]? = some e) : jm_chk n P i e = true := by
  have h1 := List.all_eq_true.mp h (e, i) (List.mem_iff_getElem?.mpr ⟨i, by simp [he]⟩)
  exact h1
theorem jm_c_spec {P : List jm_E} {i k : Nat} {e : jm_E} (h : jm_c P i e k = true) : e.2.2.1 = k ∧ ∃ e1, P[i + 1]? = some e1 ∧ e1.1 = e.1 + k := by
  simp only [jm_c, Bool.and_eq_true, beq_iff_eq] at h
  exact ⟨h.1, jm_go_spec h.2⟩
/-- the cells and the numbers of a run so far -/
def jm_Sim (D : va_G) (aC : Nat → ClassId) (ba : Nat) (ex : Nat → Nat) (s : State) (B : Nat × Nat) (n0 t0 : Nat) (h : jm_H) (H : Heap) (locs : List Loc) (cells slots : Nat) : Prop :=
  va_P D vwCl (jm_ws aC ba ex h) H ∧ (∀ i j, jm_r (h.2 i j)) ∧ va_S (fun q => ba ≤ q) s.heap H locs ∧ cells + n0 = h.1.length ∧ slots + t0 = jm_tot h.1 ∧ h.1.length ≤ B.1 ∧ jm_tot h.1 ≤ B.2
section JMC
variable (p : Program) (l : Launch) (e : Env) (R : Room) (s : State) (m : MethodId) (args : Array Value) (below : List Frame) (meth : Method) (c : Code) (D : va_G) (aC : Nat → ClassId) (ba : Nat) (ex : Nat → Nat)
/-- all that stays while a method runs -/
def jm_Cx (X : jm_X) (n d : Nat) (B : Nat × Nat) (n0 t0 : Nat) : Prop :=
  p.tables.exec = Jvm.exec ∧ c.code = jm_co n ∧ c.maxLocals = jm_ma n ∧ s.vm.findClass (jm_CN (jm_ow n)) = some m.cls ∧ jm_Env D aC s ∧ jm_Ext ba ex X s s.heap ∧ s.heap.size = ba + n0 ∧ (jm_ki n = 2 → meth.name = "<init>") ∧ d + 1 ≤ R.frames ∧ 64 * (d + 1) ≤ R.locals ∧ B.1 ≤ n0 + R.cells ∧ B.2 ≤ t0 + R.slots
def jm_It (P : List jm_E) (n : Nat) (B : Nat × Nat) (n0 t0 : Nat) (Qz : State → Prop) : jm_K := fun i L st h =>
  ∀ e' : jm_E, P[i]? = some e' → ∀ (H : Heap) (locs : List Loc) (cells slots : Nat) (ls : Array Slot), jm_Sim D aC ba ex s B n0 t0 h H locs cells slots → jm_LR ba ex ls (jm_ma n) L → (∀ v ∈ st, jm_ok v) →
    W p l e R s m args below meth c H locs cells slots Qz (F0 m e'.1 ls (st.map (jm_rv ba ex)))
end JMC
end
section
section JMS
variable {p : Program} {l : Launch} {e : Env} {R : Room} {s : State} {m : MethodId} {args : Array Value} {below : List Frame} {meth : Method} {c : Code} {D : va_G} {aC : Nat → ClassId} {ba : Nat} {ex : Nat → Nat}
variable {X : jm_X} {n d : Nat} {B : Nat × Nat} {n0 t0 : Nat} {P : List jm_E} {Qz : State → Prop} {C : jm_C} {Q : jm_Q}
theorem jm_any {α : Type} {l : List α} {f : α → Bool} (h : l.any f = true) : ∃ q ∈ l, f q = true := List.any_eq_true.mp h
theorem jm_word {U : State} (hE : jm_Env D aC U) {w : Cond} (hw : w ∈ lw_tbl) (hg : goodWord w = true) (a : Array Value) : w.before a U = true := hE.1 w hw hg a
theorem jm_Tsb {U : State} (hE : jm_Env D aC U) (a : Array Value) : ∀ w ∈ jm_Ts, w.before a U = true := fun w hw => hE.1 w (List.mem_filter.mp hw).1 (List.mem_filter.mp hw).2 a

set_option maxHeartbeats 1000000 in
theorem jm_t_iconst {v : Int} (hC : jm_Cx p R s m meth c D aC ba ex X n d B n0 t0) {i : Nat} {pc len : Nat} {res : List Int} {L : jm_L} {st : List jm_V} {h : jm_H} (he : P[i]? = some (pc, .iconst v, len, res)) (hdc : decode (jm_co n) pc = .ok (.iconst v, len)) (hck : jm_chk n P i (pc, .iconst v, len, res) = true)
    (hs : jm_sem X C B Q (jm_It p l e R s m args below meth c D aC ba ex P n B n0 t0 Qz) (pc, .iconst v, len, res) i L st h) : jm_It p l e R s m args below meth c D aC ba ex P n B n0 t0 Qz i L st h := by
  intro e' he' H locs cells slots ls hS hL hst
  cases he.symm.trans he'
  obtain ⟨hx, hb, hml, hown, hE, hXt, hsz, hin, hfr, hlo, hBc, hBs⟩ := hC
  simp only [jm_chk, Bool.and_eq_true, decide_eq_true_eq] at hck
  simp only [jm_sem] at hs
  obtain ⟨hl1, e1, g1, g2⟩ := jm_c_spec hck.1
  dsimp only at hl1 g2
  subst hl1
  have kk := hs e1 g1 H locs cells slots ls hS hL (List.forall_mem_cons.mpr ⟨hck.2, hst⟩)
  rw [g2] at kk
  exact lv_iconst hx hb hdc rfl kk

set_option maxHeartbeats 1000000 in
theorem jm_t_bipush {v : Int} (hC : jm_Cx p R s m meth c D aC ba ex X n d B n0 t0) {i : Nat} {pc len : Nat} {res : List Int} {L : jm_L} {st : List jm_V} {h : jm_H} (he : P[i]? = some (pc, .bipush v, len, res)) (hdc : decode (jm_co n) pc = .ok (.bipush v, len)) (hck : jm_chk n P i (pc, .bipush v, len, res) = true)
    (hs : jm_sem X C B Q (jm_It p l e R s m args below meth c D aC ba ex P n B n0 t0 Qz) (pc, .bipush v, len, res) i L st h) : jm_It p l e R s m args below meth c D aC ba ex P n B n0 t0 Qz i L st h := by
  intro e' he' H locs cells slots ls hS hL hst
  cases he.symm.trans he'
  obtain ⟨hx, hb, hml, hown, hE, hXt, hsz, hin, hfr, hlo, hBc, hBs⟩ := hC
  simp only [jm_chk, Bool.and_eq_true, decide_eq_true_eq] at hck
  simp only [jm_sem] at hs
  obtain ⟨hl1, e1, g1, g2⟩ := jm_c_spec hck.1
  dsimp only at hl1 g2
  subst hl1
  have kk := hs e1 g1 H locs cells slots ls hS hL (List.forall_mem_cons.mpr ⟨hck.2.1, hst⟩)
  rw [g2] at kk
  exact lv_bipush hx hb hdc hck.2.2 kk

set_option maxHeartbeats 1000000 in
theorem jm_t_sipush {v : Int} (hC : jm_Cx p R s m meth c D aC ba ex X n d B n0 t0) {i : Nat} {pc len : Nat} {res : List Int} {L : jm_L} {st : List jm_V} {h : jm_H} (he : P[i]? = some (pc, .sipush v, len, res)) (hdc : decode (jm_co n) pc = .ok (.sipush v, len)) (hck : jm_chk n P i (pc, .sipush v, len, res) = true)
    (hs : jm_sem X C B Q (jm_It p l e R s m args below meth c D aC ba ex P n B n0 t0 Qz) (pc, .sipush v, len, res) i L st h) : jm_It p l e R s m args below meth c D aC ba ex P n B n0 t0 Qz i L st h := by
  intro e' he' H locs cells slots ls hS hL hst
  cases he.symm.trans he'
  obtain ⟨hx, hb, hml, hown, hE, hXt, hsz, hin, hfr, hlo, hBc, hBs⟩ := hC
  simp only [jm_chk, Bool.and_eq_true, decide_eq_true_eq] at hck
  simp only [jm_sem] at hs
  obtain ⟨hl1, e1, g1, g2⟩ := jm_c_spec hck.1
  dsimp only at hl1 g2
  subst hl1
  have kk := hs e1 g1 H locs cells slots ls hS hL (List.forall_mem_cons.mpr ⟨hck.2.1, hst⟩)
  rw [g2] at kk
  exact lv_sipush hx hb hdc hck.2.2 kk

set_option maxHeartbeats 1000000 in
theorem jm_t_ldc {x : Nat} (hC : jm_Cx p R s m meth c D aC ba ex X n d B n0 t0) {i : Nat} {pc len : Nat} {res : List Int} {L : jm_L} {st : List jm_V} {h : jm_H} (he : P[i]? = some (pc, .ldc x, len, res)) (hdc : decode (jm_co n) pc = .ok (.ldc x, len)) (hck : jm_chk n P i (pc, .ldc x, len, res) = true)
    (hs : jm_sem X C B Q (jm_It p l e R s m args below meth c D aC ba ex P n B n0 t0 Qz) (pc, .ldc x, len, res) i L st h) : jm_It p l e R s m args below meth c D aC ba ex P n B n0 t0 Qz i L st h := by
  intro e' he' H locs cells slots ls hS hL hst
  cases he.symm.trans he'
  obtain ⟨hx, hb, hml, hown, hE, hXt, hsz, hin, hfr, hlo, hBc, hBs⟩ := hC
  simp only [jm_chk, Bool.and_eq_true] at hck
  simp only [jm_sem] at hs
  obtain ⟨hc1, hc2⟩ := hck
  split at hs
  · rename_i v
    simp only [Bool.and_eq_true, decide_eq_true_eq] at hc2
    obtain ⟨q, hq, hq2⟩ := jm_any hc2.2
    simp only [Bool.and_eq_true, beq_iff_eq] at hq2
    have hw := List.all_eq_true.mp jm_kl_ok q hq
    have hw := jm_hw_in hw _ List.mem_cons_self
    have hk := jm_word hE hw rfl args
    obtain ⟨hl1, e1, g1, g2⟩ := jm_c_spec hc1
    dsimp only at hl1 g2
    subst hl1
    have kk := hs e1 g1 H locs cells slots ls hS hL (List.forall_mem_cons.mpr ⟨hc2.1, hst⟩)
    rw [g2] at kk
    obtain ⟨z1, z2, z3⟩ := hq2
    unfold jm_klw at hk
    rw [z1, z2, z3] at hk
    exact lv_ldc hx hb hown hk hdc kk
  · exact hs.elim

set_option maxHeartbeats 1000000 in
theorem jm_t_ldc_w {x : Nat} (hC : jm_Cx p R s m meth c D aC ba ex X n d B n0 t0) {i : Nat} {pc len : Nat} {res : List Int} {L : jm_L} {st : List jm_V} {h : jm_H} (he : P[i]? = some (pc, .ldc_w x, len, res)) (hdc : decode (jm_co n) pc = .ok (.ldc_w x, len)) (hck : jm_chk n P i (pc, .ldc_w x, len, res) = true)
    (hs : jm_sem X C B Q (jm_It p l e R s m args below meth c D aC ba ex P n B n0 t0 Qz) (pc, .ldc_w x, len, res) i L st h) : jm_It p l e R s m args below meth c D aC ba ex P n B n0 t0 Qz i L st h := by
  intro e' he' H locs cells slots ls hS hL hst
  cases he.symm.trans he'
  obtain ⟨hx, hb, hml, hown, hE, hXt, hsz, hin, hfr, hlo, hBc, hBs⟩ := hC
  simp only [jm_chk, Bool.and_eq_true] at hck
  simp only [jm_sem] at hs
  obtain ⟨hc1, hc2⟩ := hck
  split at hs
  · rename_i v
    simp only [Bool.and_eq_true, decide_eq_true_eq] at hc2
    obtain ⟨q, hq, hq2⟩ := jm_any hc2.2
    simp only [Bool.and_eq_true, beq_iff_eq] at hq2
    have hw := List.all_eq_true.mp jm_kl_ok q hq
    have hw := jm_hw_in hw _ List.mem_cons_self
    have hk := jm_word hE hw rfl args
    obtain ⟨hl1, e1, g1, g2⟩ := jm_c_spec hc1
    dsimp only at hl1 g2
    subst hl1
    have kk := hs e1 g1 H locs cells slots ls hS hL (List.forall_mem_cons.mpr ⟨hc2.1, hst⟩)
    rw [g2] at kk
    obtain ⟨z1, z2, z3⟩ := hq2
    unfold jm_klw at hk
    rw [z1, z2, z3] at hk
    exact lv_ldcw hx hb hown hk hdc kk
  · exact hs.elim

set_option maxHeartbeats 1000000 in
theorem jm_t_ldc2_w {x : Nat} (hC : jm_Cx p R s m meth c D aC ba ex X n d B n0 t0) {i : Nat} {pc len : Nat} {res : List Int} {L : jm_L} {st : List jm_V} {h : jm_H} (he : P[i]? = some (pc, .ldc2_w x, len, res)) (hdc : decode (jm_co n) pc = .ok (.ldc2_w x, len)) (hck : jm_chk n P i (pc, .ldc2_w x, len, res) = true)
    (hs : jm_sem X C B Q (jm_It p l e R s m args below meth c D aC ba ex P n B n0 t0 Qz) (pc, .ldc2_w x, len, res) i L st h) : jm_It p l e R s m args below meth c D aC ba ex P n B n0 t0 Qz i L st h := by
  intro e' he' H locs cells slots ls hS hL hst
  cases he.symm.trans he'
  obtain ⟨hx, hb, hml, hown, hE, hXt, hsz, hin, hfr, hlo, hBc, hBs⟩ := hC
  simp only [jm_chk, Bool.and_eq_true] at hck
  simp only [jm_sem] at hs
  obtain ⟨hc1, hc2⟩ := hck
  split at hs
  · rename_i v
    simp only [Bool.and_eq_true, decide_eq_true_eq] at hc2
    obtain ⟨q, hq, hq2⟩ := jm_any hc2.2
    simp only [Bool.and_eq_true, beq_iff_eq] at hq2
    have hw := List.all_eq_true.mp jm_jl_ok q hq
    have hw := jm_hw_in hw _ List.mem_cons_self
    have hk := jm_word hE hw rfl args
    obtain ⟨hl1, e1, g1, g2⟩ := jm_c_spec hc1
    dsimp only at hl1 g2
    subst hl1
    have kk := hs e1 g1 H locs cells slots ls hS hL (List.forall_mem_cons.mpr ⟨hc2.1, hst⟩)
    rw [g2] at kk
    obtain ⟨z1, z2, z3⟩ := hq2
    unfold jm_jlw at hk
    rw [z1, z2, z3] at hk
    exact lv_ldc2 hx hb hown hk hdc kk
  · exact hs.elim

set_option maxHeartbeats 1000000 in
theorem jm_t_lconst {v : Fin 2} (hC : jm_Cx p R s m meth c D aC ba ex X n d B n0 t0) {i : Nat} {pc len : Nat} {res : List Int} {L : jm_L} {st : List jm_V} {h : jm_H} (he : P[i]? = some (pc, .lconst v, len, res)) (hdc : decode (jm_co n) pc = .ok (.lconst v, len)) (hck : jm_chk n P i (pc, .lconst v, len, res) = true)
    (hs : jm_sem X C B Q (jm_It p l e R s m args below meth c D aC ba ex P n B n0 t0 Qz) (pc, .lconst v, len, res) i L st h) : jm_It p l e R s m args below meth c D aC ba ex P n B n0 t0 Qz i L st h := by
  intro e' he' H locs cells slots ls hS hL hst
  cases he.symm.trans he'
  obtain ⟨hx, hb, hml, hown, hE, hXt, hsz, hin, hfr, hlo, hBc, hBs⟩ := hC
  simp only [jm_chk] at hck
  simp only [jm_sem] at hs
  obtain ⟨hl1, e1, g1, g2⟩ := jm_c_spec hck
  dsimp only at hl1 g2
  subst hl1
  have hv : jm_rl (v.val : Int) := by have := v.isLt; exact ⟨by omega, by omega⟩
  have kk := hs e1 g1 H locs cells slots ls hS hL (List.forall_mem_cons.mpr ⟨hv, hst⟩)
  rw [g2] at kk
  exact lv_lconst hx hb hdc (by rw [← Int64.ofInt_eq_ofNat]) kk

set_option maxHeartbeats 1000000 in
theorem jm_t_iload {k : Nat} (hC : jm_Cx p R s m meth c D aC ba ex X n d B n0 t0) {i : Nat} {pc len : Nat} {res : List Int} {L : jm_L} {st : List jm_V} {h : jm_H} (he : P[i]? = some (pc, .iload k, len, res)) (hdc : decode (jm_co n) pc = .ok (.iload k, len)) (hck : jm_chk n P i (pc, .iload k, len, res) = true)
    (hs : jm_sem X C B Q (jm_It p l e R s m args below meth c D aC ba ex P n B n0 t0 Qz) (pc, .iload k, len, res) i L st h) : jm_It p l e R s m args below meth c D aC ba ex P n B n0 t0 Qz i L st h := by
  intro e' he' H locs cells slots ls hS hL hst
  cases he.symm.trans he'
  obtain ⟨hx, hb, hml, hown, hE, hXt, hsz, hin, hfr, hlo, hBc, hBs⟩ := hC
  simp only [jm_chk] at hck
  simp only [jm_sem] at hs
  obtain ⟨hl1, e1, g1, g2⟩ := jm_c_spec hck
  dsimp only at hl1 g2
  subst hl1
  split at hs
  · rename_i z hz
    obtain ⟨hl2, hv⟩ := hL.2.2 _ _ hz
    have kk := hs e1 g1 H locs cells slots ls hS hL (List.forall_mem_cons.mpr ⟨hv, hst⟩)
    rw [g2] at kk
    exact lv_iload hx hb hdc hl2 kk
  · exact hs.elim

set_option maxHeartbeats 1000000 in
theorem jm_t_iload_n {k : Fin 4} (hC : jm_Cx p R s m meth c D aC ba ex X n d B n0 t0) {i : Nat} {pc len : Nat} {res : List Int} {L : jm_L} {st : List jm_V} {h : jm_H} (he : P[i]? = some (pc, .iload_n k, len, res)) (hdc : decode (jm_co n) pc = .ok (.iload_n k, len)) (hck : jm_chk n P i (pc, .iload_n k, len, res) = true)
    (hs : jm_sem X C B Q (jm_It p l e R s m args below meth c D aC ba ex P n B n0 t0 Qz) (pc, .iload_n k, len, res) i L st h) : jm_It p l e R s m args below meth c D aC ba ex P n B n0 t0 Qz i L st h := by
  intro e' he' H locs cells slots ls hS hL hst
  cases he.symm.trans he'
  obtain ⟨hx, hb, hml, hown, hE, hXt, hsz, hin, hfr, hlo, hBc, hBs⟩ := hC
  simp only [jm_chk] at hck
  simp only [jm_sem] at hs
  obtain ⟨hl1, e1, g1, g2⟩ := jm_c_spec hck
  dsimp only at hl1 g2
  subst hl1
  split at hs
  · rename_i z hz
    obtain ⟨hl2, hv⟩ := hL.2.2 _ _ hz
    have kk := hs e1 g1 H locs cells slots ls hS hL (List.forall_mem_cons.mpr ⟨hv, hst⟩)
    rw [g2] at kk
    exact lv_iload_n hx hb hdc rfl hl2 kk
  · exact hs.elim

set_option maxHeartbeats 1000000 in
theorem jm_t_lload {k : Nat} (hC : jm_Cx p R s m meth c D aC ba ex X n d B n0 t0) {i : Nat} {pc len : Nat} {res : List Int} {L : jm_L} {st : List jm_V} {h : jm_H} (he : P[i]? = some (pc, .lload k, len, res)) (hdc : decode (jm_co n) pc = .ok (.lload k, len)) (hck : jm_chk n P i (pc, .lload k, len, res) = true)
    (hs : jm_sem X C B Q (jm_It p l e R s m args below meth c D aC ba ex P n B n0 t0 Qz) (pc, .lload k, len, res) i L st h) : jm_It p l e R s m args below meth c D aC ba ex P n B n0 t0 Qz i L st h := by
  intro e' he' H locs cells slots ls hS hL hst
  cases he.symm.trans he'
  obtain ⟨hx, hb, hml, hown, hE, hXt, hsz, hin, hfr, hlo, hBc, hBs⟩ := hC
  simp only [jm_chk] at hck
  simp only [jm_sem] at hs
  obtain ⟨hl1, e1, g1, g2⟩ := jm_c_spec hck
  dsimp only at hl1 g2
  subst hl1
  split at hs
  · rename_i z hz
    obtain ⟨hl2, hv⟩ := hL.2.2 _ _ hz
    have kk := hs e1 g1 H locs cells slots ls hS hL (List.forall_mem_cons.mpr ⟨hv, hst⟩)
    rw [g2] at kk
    exact lv_lload hx hb hdc hl2 kk
  · exact hs.elim

set_option maxHeartbeats 1000000 in
theorem jm_t_lload_n {k : Fin 4} (hC : jm_Cx p R s m meth c D aC ba ex X n d B n0 t0) {i : Nat} {pc len : Nat} {res : List Int} {L : jm_L} {st : List jm_V} {h : jm_H} (he : P[i]? = some (pc, .lload_n k, len, res)) (hdc : decode (jm_co n) pc = .ok (.lload_n k, len)) (hck : jm_chk n P i (pc, .lload_n k, len, res) = true)
    (hs : jm_sem X C B Q (jm_It p l e R s m args below meth c D aC ba ex P n B n0 t0 Qz) (pc, .lload_n k, len, res) i L st h) : jm_It p l e R s m args below meth c D aC ba ex P n B n0 t0 Qz i L st h := by
  intro e' he' H locs cells slots ls hS hL hst
  cases he.symm.trans he'
  obtain ⟨hx, hb, hml, hown, hE, hXt, hsz, hin, hfr, hlo, hBc, hBs⟩ := hC
  simp only [jm_chk] at hck
  simp only [jm_sem] at hs
  obtain ⟨hl1, e1, g1, g2⟩ := jm_c_spec hck
  dsimp only at hl1 g2
  subst hl1
  split at hs
  · rename_i z hz
    obtain ⟨hl2, hv⟩ := hL.2.2 _ _ hz
    have kk := hs e1 g1 H locs cells slots ls hS hL (List.forall_mem_cons.mpr ⟨hv, hst⟩)
    rw [g2] at kk
    exact lv_lload_n hx hb hdc rfl hl2 kk
  · exact hs.elim

set_option maxHeartbeats 1000000 in
theorem jm_t_aload {k : Nat} (hC : jm_Cx p R s m meth c D aC ba ex X n d B n0 t0) {i : Nat} {pc len : Nat} {res : List Int} {L : jm_L} {st : List jm_V} {h : jm_H} (he : P[i]? = some (pc, .aload k, len, res)) (hdc : decode (jm_co n) pc = .ok (.aload k, len)) (hck : jm_chk n P i (pc, .aload k, len, res) = true)
    (hs : jm_sem X C B Q (jm_It p l e R s m args below meth c D aC ba ex P n B n0 t0 Qz) (pc, .aload k, len, res) i L st h) : jm_It p l e R s m args below meth c D aC ba ex P n B n0 t0 Qz i L st h := by
  intro e' he' H locs cells slots ls hS hL hst
  cases he.symm.trans he'
  obtain ⟨hx, hb, hml, hown, hE, hXt, hsz, hin, hfr, hlo, hBc, hBs⟩ := hC
  simp only [jm_chk] at hck
  simp only [jm_sem] at hs
  obtain ⟨hl1, e1, g1, g2⟩ := jm_c_spec hck
  dsimp only at hl1 g2
  subst hl1
  split at hs
  · rename_i z hz
    obtain ⟨hl2, hv⟩ := hL.2.2 _ _ hz
    obtain ⟨hne, hs⟩ := hs
    obtain ⟨x, hx2⟩ := jm_rv_ref (ba := ba) (ex := ex) hne
    have kk := hs e1 g1 H locs cells slots ls hS hL (List.forall_mem_cons.mpr ⟨hv, hst⟩)
    rw [g2, List.map_cons, hx2] at kk
    rw [hx2] at hl2
    exact lv_aload hx hb hdc hl2 kk
  · exact hs.elim

set_option maxHeartbeats 1000000 in
theorem jm_t_aload_n {k : Fin 4} (hC : jm_Cx p R s m meth c D aC ba ex X n d B n0 t0) {i : Nat} {pc len : Nat} {res : List Int} {L : jm_L} {st : List jm_V} {h : jm_H} (he : P[i]? = some (pc, .aload_n k, len, res)) (hdc : decode (jm_co n) pc = .ok (.aload_n k, len)) (hck : jm_chk n P i (pc, .aload_n k, len, res) = true)
    (hs : jm_sem X C B Q (jm_It p l e R s m args below meth c D aC ba ex P n B n0 t0 Qz) (pc, .aload_n k, len, res) i L st h) : jm_It p l e R s m args below meth c D aC ba ex P n B n0 t0 Qz i L st h := by
  intro e' he' H locs cells slots ls hS hL hst
  cases he.symm.trans he'
  obtain ⟨hx, hb, hml, hown, hE, hXt, hsz, hin, hfr, hlo, hBc, hBs⟩ := hC
  simp only [jm_chk] at hck
  simp only [jm_sem] at hs
  obtain ⟨hl1, e1, g1, g2⟩ := jm_c_spec hck
  dsimp only at hl1 g2
  subst hl1
  split at hs
  · rename_i z hz
    obtain ⟨hl2, hv⟩ := hL.2.2 _ _ hz
    obtain ⟨hne, hs⟩ := hs
    obtain ⟨x, hx2⟩ := jm_rv_ref (ba := ba) (ex := ex) hne
    have kk := hs e1 g1 H locs cells slots ls hS hL (List.forall_mem_cons.mpr ⟨hv, hst⟩)
    rw [g2, List.map_cons, hx2] at kk
    rw [hx2] at hl2
    exact lv_aload_n hx hb hdc rfl hl2 kk
  · exact hs.elim

set_option maxHeartbeats 1000000 in
theorem jm_t_istore {k : Nat} (hC : jm_Cx p R s m meth c D aC ba ex X n d B n0 t0) {i : Nat} {pc len : Nat} {res : List Int} {L : jm_L} {st : List jm_V} {h : jm_H} (he : P[i]? = some (pc, .istore k, len, res)) (hdc : decode (jm_co n) pc = .ok (.istore k, len)) (hck : jm_chk n P i (pc, .istore k, len, res) = true)
    (hs : jm_sem X C B Q (jm_It p l e R s m args below meth c D aC ba ex P n B n0 t0 Qz) (pc, .istore k, len, res) i L st h) : jm_It p l e R s m args below meth c D aC ba ex P n B n0 t0 Qz i L st h := by
  intro e' he' H locs cells slots ls hS hL hst
  cases he.symm.trans he'
  obtain ⟨hx, hb, hml, hown, hE, hXt, hsz, hin, hfr, hlo, hBc, hBs⟩ := hC
  simp only [jm_chk, Bool.and_eq_true, decide_eq_true_eq] at hck
  simp only [jm_sem] at hs
  obtain ⟨hc1, hc2⟩ := hck
  obtain ⟨hl1, e1, g1, g2⟩ := jm_c_spec hc1
  dsimp only at hl1 g2
  subst hl1
  split at hs
  · rename_i z r
    obtain ⟨hv, hst⟩ := List.forall_mem_cons.mp hst
    refine lv_istore hx hb hdc hL.has hc2 rfl (fun ls' hl' => ?_)
    have kk := hs e1 g1 H locs cells slots ls' hS (jm_LR.store hv (fun k v h => (hL.2.2 k v h).2) hl') hst
    rw [g2] at kk
    exact kk
  · exact hs.elim

set_option maxHeartbeats 1000000 in
theorem jm_t_istore_n {k : Fin 4} (hC : jm_Cx p R s m meth c D aC ba ex X n d B n0 t0) {i : Nat} {pc len : Nat} {res : List Int} {L : jm_L} {st : List jm_V} {h : jm_H} (he : P[i]? = some (pc, .istore_n k, len, res)) (hdc : decode (jm_co n) pc = .ok (.istore_n k, len)) (hck : jm_chk n P i (pc, .istore_n k, len, res) = true)
    (hs : jm_sem X C B Q (jm_It p l e R s m args below meth c D aC ba ex P n B n0 t0 Qz) (pc, .istore_n k, len, res) i L st h) : jm_It p l e R s m args below meth c D aC ba ex P n B n0 t0 Qz i L st h := by
  intro e' he' H locs cells slots ls hS hL hst
  cases he.symm.trans he'
  obtain ⟨hx, hb, hml, hown, hE, hXt, hsz, hin, hfr, hlo, hBc, hBs⟩ := hC
  simp only [jm_chk, Bool.and_eq_true, decide_eq_true_eq] at hck
  simp only [jm_sem] at hs
  obtain ⟨hc1, hc2⟩ := hck
  obtain ⟨hl1, e1, g1, g2⟩ := jm_c_spec hc1
  dsimp only at hl1 g2
  subst hl1
  split at hs
  · rename_i z r
    obtain ⟨hv, hst⟩ := List.forall_mem_cons.mp hst
    refine lv_istore_n hx hb hdc rfl hL.has hc2 rfl (fun ls' hl' => ?_)
    have kk := hs e1 g1 H locs cells slots ls' hS (jm_LR.store hv (fun k v h => (hL.2.2 k v h).2) hl') hst
    rw [g2] at kk
    exact kk
  · exact hs.elim

set_option maxHeartbeats 1000000 in
theorem jm_t_lstore {k : Nat} (hC : jm_Cx p R s m meth c D aC ba ex X n d B n0 t0) {i : Nat} {pc len : Nat} {res : List Int} {L : jm_L} {st : List jm_V} {h : jm_H} (he : P[i]? = some (pc, .lstore k, len, res)) (hdc : decode (jm_co n) pc = .ok (.lstore k, len)) (hck : jm_chk n P i (pc, .lstore k, len, res) = true)
    (hs : jm_sem X C B Q (jm_It p l e R s m args below meth c D aC ba ex P n B n0 t0 Qz) (pc, .lstore k, len, res) i L st h) : jm_It p l e R s m args below meth c D aC ba ex P n B n0 t0 Qz i L st h := by
  intro e' he' H locs cells slots ls hS hL hst
  cases he.symm.trans he'
  obtain ⟨hx, hb, hml, hown, hE, hXt, hsz, hin, hfr, hlo, hBc, hBs⟩ := hC
  simp only [jm_chk, Bool.and_eq_true, decide_eq_true_eq] at hck
  simp only [jm_sem] at hs
  obtain ⟨hc1, hc2⟩ := hck
  obtain ⟨hl1, e1, g1, g2⟩ := jm_c_spec hc1
  dsimp only at hl1 g2
  subst hl1
  split at hs
  · rename_i z r
    obtain ⟨hv, hst⟩ := List.forall_mem_cons.mp hst
    refine lv_lstore hx hb hdc hL.has hc2 rfl (fun ls' hl' => ?_)
    have kk := hs e1 g1 H locs cells slots ls' hS (jm_LR.store2 hv (fun k v h => (hL.2.2 k v h).2) hl') hst
    rw [g2] at kk
    exact kk
  · exact hs.elim

set_option maxHeartbeats 1000000 in
theorem jm_t_lstore_n {k : Fin 4} (hC : jm_Cx p R s m meth c D aC ba ex X n d B n0 t0) {i : Nat} {pc len : Nat} {res : List Int} {L : jm_L} {st : List jm_V} {h : jm_H} (he : P[i]? = some (pc, .lstore_n k, len, res)) (hdc : decode (jm_co n) pc = .ok (.lstore_n k, len)) (hck : jm_chk n P i (pc, .lstore_n k, len, res) = true)
    (hs : jm_sem X C B Q (jm_It p l e R s m args below meth c D aC ba ex P n B n0 t0 Qz) (pc, .lstore_n k, len, res) i L st h) : jm_It p l e R s m args below meth c D aC ba ex P n B n0 t0 Qz i L st h := by
  intro e' he' H locs cells slots ls hS hL hst
  cases he.symm.trans he'
  obtain ⟨hx, hb, hml, hown, hE, hXt, hsz, hin, hfr, hlo, hBc, hBs⟩ := hC
  simp only [jm_chk, Bool.and_eq_true, decide_eq_true_eq] at hck
  simp only [jm_sem] at hs
  obtain ⟨hc1, hc2⟩ := hck
  obtain ⟨hl1, e1, g1, g2⟩ := jm_c_spec hc1
  dsimp only at hl1 g2
  subst hl1
  split at hs
  · rename_i z r
    obtain ⟨hv, hst⟩ := List.forall_mem_cons.mp hst
    refine lv_lstore_n hx hb hdc rfl hL.has hc2 rfl (fun ls' hl' => ?_)
    have kk := hs e1 g1 H locs cells slots ls' hS (jm_LR.store2 hv (fun k v h => (hL.2.2 k v h).2) hl') hst
    rw [g2] at kk
    exact kk
  · exact hs.elim

set_option maxHeartbeats 1000000 in
theorem jm_t_astore {k : Nat} (hC : jm_Cx p R s m meth c D aC ba ex X n d B n0 t0) {i : Nat} {pc len : Nat} {res : List Int} {L : jm_L} {st : List jm_V} {h : jm_H} (he : P[i]? = some (pc, .astore k, len, res)) (hdc : decode (jm_co n) pc = .ok (.astore k, len)) (hck : jm_chk n P i (pc, .astore k, len, res) = true)
    (hs : jm_sem X C B Q (jm_It p l e R s m args below meth c D aC ba ex P n B n0 t0 Qz) (pc, .astore k, len, res) i L st h) : jm_It p l e R s m args below meth c D aC ba ex P n B n0 t0 Qz i L st h := by
  intro e' he' H locs cells slots ls hS hL hst
  cases he.symm.trans he'
  obtain ⟨hx, hb, hml, hown, hE, hXt, hsz, hin, hfr, hlo, hBc, hBs⟩ := hC
  simp only [jm_chk, Bool.and_eq_true, decide_eq_true_eq] at hck
  simp only [jm_sem] at hs
  obtain ⟨hc1, hc2⟩ := hck
  obtain ⟨hl1, e1, g1, g2⟩ := jm_c_spec hc1
  dsimp only at hl1 g2
  subst hl1
  split at hs
  · rename_i z r
    obtain ⟨hv, hst⟩ := List.forall_mem_cons.mp hst
    obtain ⟨hne, hs⟩ := hs
    obtain ⟨x, hx2⟩ := jm_rv_ref (ba := ba) (ex := ex) hne
    rw [List.map_cons, hx2]
    refine lv_astore hx hb hdc hL.has hc2 rfl (fun ls' hl' => ?_)
    rw [← hx2] at hl'
    have kk := hs e1 g1 H locs cells slots ls' hS (jm_LR.store hv (fun k v h => (hL.2.2 k v h).2) hl') hst
    rw [g2] at kk
    exact kk
  · exact hs.elim

set_option maxHeartbeats 1000000 in
theorem jm_t_astore_n {k : Fin 4} (hC : jm_Cx p R s m meth c D aC ba ex X n d B n0 t0) {i : Nat} {pc len : Nat} {res : List Int} {L : jm_L} {st : List jm_V} {h : jm_H} (he : P[i]? = some (pc, .astore_n k, len, res)) (hdc : decode (jm_co n) pc = .ok (.astore_n k, len)) (hck : jm_chk n P i (pc, .astore_n k, len, res) = true)
    (hs : jm_sem X C B Q (jm_It p l e R s m args below meth c D aC ba ex P n B n0 t0 Qz) (pc, .astore_n k, len, res) i L st h) : jm_It p l e R s m args below meth c D aC ba ex P n B n0 t0 Qz i L st h := by
  intro e' he' H locs cells slots ls hS hL hst
  cases he.symm.trans he'
  obtain ⟨hx, hb, hml, hown, hE, hXt, hsz, hin, hfr, hlo, hBc, hBs⟩ := hC
  simp only [jm_chk, Bool.and_eq_true, decide_eq_true_eq] at hck
  simp only [jm_sem] at hs
  obtain ⟨hc1, hc2⟩ := hck
  obtain ⟨hl1, e1, g1, g2⟩ := jm_c_spec hc1
  dsimp only at hl1 g2
  subst hl1
  split at hs
  · rename_i z r
    obtain ⟨hv, hst⟩ := List.forall_mem_cons.mp hst
    obtain ⟨hne, hs⟩ := hs
    obtain ⟨x, hx2⟩ := jm_rv_ref (ba := ba) (ex := ex) hne
    rw [List.map_cons, hx2]
    refine lv_astore_n hx hb hdc rfl hL.has hc2 rfl (fun ls' hl' => ?_)
    rw [← hx2] at hl'
    have kk := hs e1 g1 H locs cells slots ls' hS (jm_LR.store hv (fun k v h => (hL.2.2 k v h).2) hl') hst
    rw [g2] at kk
    exact kk
  · exact hs.elim

set_option maxHeartbeats 1000000 in
theorem jm_t_iinc {k : Nat} {v : Int} (hC : jm_Cx p R s m meth c D aC ba ex X n d B n0 t0) {i : Nat} {pc len : Nat} {res : List Int} {L : jm_L} {st : List jm_V} {h : jm_H} (he : P[i]? = some (pc, .iinc k v, len, res)) (hdc : decode (jm_co n) pc = .ok (.iinc k v, len)) (hck : jm_chk n P i (pc, .iinc k v, len, res) = true)
    (hs : jm_sem X C B Q (jm_It p l e R s m args below meth c D aC ba ex P n B n0 t0 Qz) (pc, .iinc k v, len, res) i L st h) : jm_It p l e R s m args below meth c D aC ba ex P n B n0 t0 Qz i L st h := by
  intro e' he' H locs cells slots ls hS hL hst
  cases he.symm.trans he'
  obtain ⟨hx, hb, hml, hown, hE, hXt, hsz, hin, hfr, hlo, hBc, hBs⟩ := hC
  simp only [jm_chk, Bool.and_eq_true, decide_eq_true_eq] at hck
  simp only [jm_sem] at hs
  obtain ⟨hc1, hc2⟩ := hck
  obtain ⟨hl1, e1, g1, g2⟩ := jm_c_spec hc1
  dsimp only at hl1 g2
  subst hl1
  split at hs
  · rename_i z hz
    obtain ⟨hr, hs⟩ := hs
    obtain ⟨a, ha⟩ := List.getElem?_of_mem (jm_as_mem (ba := ba) (ex := ex) (q := (k, jm_rv ba ex (.inl z))).mpr ⟨_, hz, rfl⟩)
    refine lv_iinc hx hb hdc hL.has ha rfl hc2 rfl (fun ls' hl' => ?_)
    rw [← Int32.ofInt_add] at hl'
    have kk := hs e1 g1 H locs cells slots ls' hS (jm_LR.store (v := .inl (z + v)) hr (fun k v h => (hL.2.2 k v h).2) hl') hst
    rw [g2] at kk
    exact kk
  · exact hs.elim

set_option maxHeartbeats 1000000 in
theorem jm_t_iadd (hC : jm_Cx p R s m meth c D aC ba ex X n d B n0 t0) {i : Nat} {pc len : Nat} {res : List Int} {L : jm_L} {st : List jm_V} {h : jm_H} (he : P[i]? = some (pc, .iadd, len, res)) (hdc : decode (jm_co n) pc = .ok (.iadd, len)) (hck : jm_chk n P i (pc, .iadd, len, res) = true)
    (hs : jm_sem X C B Q (jm_It p l e R s m args below meth c D aC ba ex P n B n0 t0 Qz) (pc, .iadd, len, res) i L st h) : jm_It p l e R s m args below meth c D aC ba ex P n B n0 t0 Qz i L st h := by
  intro e' he' H locs cells slots ls hS hL hst
  cases he.symm.trans he'
  obtain ⟨hx, hb, hml, hown, hE, hXt, hsz, hin, hfr, hlo, hBc, hBs⟩ := hC
  simp only [jm_chk] at hck
  simp only [jm_sem] at hs
  obtain ⟨hl1, e1, g1, g2⟩ := jm_c_spec hck
  dsimp only at hl1 g2
  subst hl1
  split at hs
  · rename_i b a r
    obtain ⟨vb, hst⟩ := List.forall_mem_cons.mp hst
    obtain ⟨va, hst⟩ := List.forall_mem_cons.mp hst
    obtain ⟨hr, hs⟩ := hs
    have kk := hs e1 g1 H locs cells slots ls hS hL (List.forall_mem_cons.mpr ⟨hr, hst⟩)
    rw [g2] at kk
    refine lv_iadd hx hb hdc ?_
    rw [← Int32.ofInt_add]
    exact kk
  · exact hs.elim

set_option maxHeartbeats 1000000 in
theorem jm_t_isub (hC : jm_Cx p R s m meth c D aC ba ex X n d B n0 t0) {i : Nat} {pc len : Nat} {res : List Int} {L : jm_L} {st : List jm_V} {h : jm_H} (he : P[i]? = some (pc, .isub, len, res)) (hdc : decode (jm_co n) pc = .ok (.isub, len)) (hck : jm_chk n P i (pc, .isub, len, res) = true)
    (hs : jm_sem X C B Q (jm_It p l e R s m args below meth c D aC ba ex P n B n0 t0 Qz) (pc, .isub, len, res) i L st h) : jm_It p l e R s m args below meth c D aC ba ex P n B n0 t0 Qz i L st h := by
  intro e' he' H locs cells slots ls hS hL hst
  cases he.symm.trans he'
  obtain ⟨hx, hb, hml, hown, hE, hXt, hsz, hin, hfr, hlo, hBc, hBs⟩ := hC
  simp only [jm_chk] at hck
  simp only [jm_sem] at hs
  obtain ⟨hl1, e1, g1, g2⟩ := jm_c_spec hck
  dsimp only at hl1 g2
  subst hl1
  split at hs
  · rename_i b a r
    obtain ⟨vb, hst⟩ := List.forall_mem_cons.mp hst
    obtain ⟨va, hst⟩ := List.forall_mem_cons.mp hst
    obtain ⟨hr, hs⟩ := hs
    have kk := hs e1 g1 H locs cells slots ls hS hL (List.forall_mem_cons.mpr ⟨hr, hst⟩)
    rw [g2] at kk
    refine lv_isub hx hb hdc ?_
    rw [← Int32.ofInt_sub]
    exact kk
  · exact hs.elim

set_option maxHeartbeats 1000000 in
theorem jm_t_imul (hC : jm_Cx p R s m meth c D aC ba ex X n d B n0 t0) {i : Nat} {pc len : Nat} {res : List Int} {L : jm_L} {st : List jm_V} {h : jm_H} (he : P[i]? = some (pc, .imul, len, res)) (hdc : decode (jm_co n) pc = .ok (.imul, len)) (hck : jm_chk n P i (pc, .imul, len, res) = true)
    (hs : jm_sem X C B Q (jm_It p l e R s m args below meth c D aC ba ex P n B n0 t0 Qz) (pc, .imul, len, res) i L st h) : jm_It p l e R s m args below meth c D aC ba ex P n B n0 t0 Qz i L st h := by
  intro e' he' H locs cells slots ls hS hL hst
  cases he.symm.trans he'
  obtain ⟨hx, hb, hml, hown, hE, hXt, hsz, hin, hfr, hlo, hBc, hBs⟩ := hC
  simp only [jm_chk] at hck
  simp only [jm_sem] at hs
  obtain ⟨hl1, e1, g1, g2⟩ := jm_c_spec hck
  dsimp only at hl1 g2
  subst hl1
  split at hs
  · rename_i b a r
    obtain ⟨vb, hst⟩ := List.forall_mem_cons.mp hst
    obtain ⟨va, hst⟩ := List.forall_mem_cons.mp hst
    obtain ⟨hr, hs⟩ := hs
    have kk := hs e1 g1 H locs cells slots ls hS hL (List.forall_mem_cons.mpr ⟨hr, hst⟩)
    rw [g2] at kk
    refine lv_imul hx hb hdc ?_
    rw [← Int32.ofInt_mul]
    exact kk
  · exact hs.elim

set_option maxHeartbeats 1000000 in
theorem jm_t_idiv (hC : jm_Cx p R s m meth c D aC ba ex X n d B n0 t0) {i : Nat} {pc len : Nat} {res : List Int} {L : jm_L} {st : List jm_V} {h : jm_H} (he : P[i]? = some (pc, .idiv, len, res)) (hdc : decode (jm_co n) pc = .ok (.idiv, len)) (hck : jm_chk n P i (pc, .idiv, len, res) = true)
    (hs : jm_sem X C B Q (jm_It p l e R s m args below meth c D aC ba ex P n B n0 t0 Qz) (pc, .idiv, len, res) i L st h) : jm_It p l e R s m args below meth c D aC ba ex P n B n0 t0 Qz i L st h := by
  intro e' he' H locs cells slots ls hS hL hst
  cases he.symm.trans he'
  obtain ⟨hx, hb, hml, hown, hE, hXt, hsz, hin, hfr, hlo, hBc, hBs⟩ := hC
  simp only [jm_chk] at hck
  simp only [jm_sem] at hs
  obtain ⟨hl1, e1, g1, g2⟩ := jm_c_spec hck
  dsimp only at hl1 g2
  subst hl1
  split at hs
  · rename_i b a r
    obtain ⟨vb, hst⟩ := List.forall_mem_cons.mp hst
    obtain ⟨va, hst⟩ := List.forall_mem_cons.mp hst
    obtain ⟨hr, hs⟩ := hs
    have kk := hs e1 g1 H locs cells slots ls hS hL (List.forall_mem_cons.mpr ⟨jm_rdiv va hr.1 hr.2, hst⟩)
    rw [g2] at kk
    refine lv_idiv hx hb hdc (fun q => by have := (jm_eq vb jm_r0).mp q; omega) ?_
    rw [jm_div va vb hr.1 hr.2]
    exact kk
  · exact hs.elim

set_option maxHeartbeats 1000000 in
theorem jm_t_irem (hC : jm_Cx p R s m meth c D aC ba ex X n d B n0 t0) {i : Nat} {pc len : Nat} {res : List Int} {L : jm_L} {st : List jm_V} {h : jm_H} (he : P[i]? = some (pc, .irem, len, res)) (hdc : decode (jm_co n) pc = .ok (.irem, len)) (hck : jm_chk n P i (pc, .irem, len, res) = true)
    (hs : jm_sem X C B Q (jm_It p l e R s m args below meth c D aC ba ex P n B n0 t0 Qz) (pc, .irem, len, res) i L st h) : jm_It p l e R s m args below meth c D aC ba ex P n B n0 t0 Qz i L st h := by
  intro e' he' H locs cells slots ls hS hL hst
  cases he.symm.trans he'
  obtain ⟨hx, hb, hml, hown, hE, hXt, hsz, hin, hfr, hlo, hBc, hBs⟩ := hC
  simp only [jm_chk] at hck
  simp only [jm_sem] at hs
  obtain ⟨hl1, e1, g1, g2⟩ := jm_c_spec hck
  dsimp only at hl1 g2
  subst hl1
  split at hs
  · rename_i b a r
    obtain ⟨vb, hst⟩ := List.forall_mem_cons.mp hst
    obtain ⟨va, hst⟩ := List.forall_mem_cons.mp hst
    obtain ⟨hr, hs⟩ := hs
    have kk := hs e1 g1 H locs cells slots ls hS hL (List.forall_mem_cons.mpr ⟨jm_rmod vb hr.2, hst⟩)
    rw [g2] at kk
    refine lv_irem hx hb hdc (fun q => by have := (jm_eq vb jm_r0).mp q; omega) ?_
    rw [jm_mod va vb hr.1 hr.2]
    exact kk
  · exact hs.elim

set_option maxHeartbeats 1000000 in
theorem jm_t_iand (hC : jm_Cx p R s m meth c D aC ba ex X n d B n0 t0) {i : Nat} {pc len : Nat} {res : List Int} {L : jm_L} {st : List jm_V} {h : jm_H} (he : P[i]? = some (pc, .iand, len, res)) (hdc : decode (jm_co n) pc = .ok (.iand, len)) (hck : jm_chk n P i (pc, .iand, len, res) = true)
    (hs : jm_sem X C B Q (jm_It p l e R s m args below meth c D aC ba ex P n B n0 t0 Qz) (pc, .iand, len, res) i L st h) : jm_It p l e R s m args below meth c D aC ba ex P n B n0 t0 Qz i L st h := by
  intro e' he' H locs cells slots ls hS hL hst
  cases he.symm.trans he'
  obtain ⟨hx, hb, hml, hown, hE, hXt, hsz, hin, hfr, hlo, hBc, hBs⟩ := hC
  simp only [jm_chk] at hck
  simp only [jm_sem] at hs
  obtain ⟨hl1, e1, g1, g2⟩ := jm_c_spec hck
  dsimp only at hl1 g2
  subst hl1
  split at hs
  · rename_i b a r
    obtain ⟨vb, hst⟩ := List.forall_mem_cons.mp hst
    obtain ⟨va, hst⟩ := List.forall_mem_cons.mp hst
    have kk := hs e1 g1 H locs cells slots ls hS hL (List.forall_mem_cons.mpr ⟨jm_rI _, hst⟩)
    rw [g2] at kk
    refine lv_iand hx hb hdc ?_
    simp only [List.map_cons, jm_rv, jm_and, Int32.ofInt_toInt] at kk
    exact kk
  · exact hs.elim

set_option maxHeartbeats 1000000 in
theorem jm_t_ior (hC : jm_Cx p R s m meth c D aC ba ex X n d B n0 t0) {i : Nat} {pc len : Nat} {res : List Int} {L : jm_L} {st : List jm_V} {h : jm_H} (he : P[i]? = some (pc, .ior, len, res)) (hdc : decode (jm_co n) pc = .ok (.ior, len)) (hck : jm_chk n P i (pc, .ior, len, res) = true)
    (hs : jm_sem X C B Q (jm_It p l e R s m args below meth c D aC ba ex P n B n0 t0 Qz) (pc, .ior, len, res) i L st h) : jm_It p l e R s m args below meth c D aC ba ex P n B n0 t0 Qz i L st h := by
  intro e' he' H locs cells slots ls hS hL hst
  cases he.symm.trans he'
  obtain ⟨hx, hb, hml, hown, hE, hXt, hsz, hin, hfr, hlo, hBc, hBs⟩ := hC
  simp only [jm_chk] at hck
  simp only [jm_sem] at hs
  obtain ⟨hl1, e1, g1, g2⟩ := jm_c_spec hck
  dsimp only at hl1 g2
  subst hl1
  split at hs
  · rename_i b a r
    obtain ⟨vb, hst⟩ := List.forall_mem_cons.mp hst
    obtain ⟨va, hst⟩ := List.forall_mem_cons.mp hst
    have kk := hs e1 g1 H locs cells slots ls hS hL (List.forall_mem_cons.mpr ⟨jm_rI _, hst⟩)
    rw [g2] at kk
    refine lv_ior hx hb hdc ?_
    simp only [List.map_cons, jm_rv, jm_or, Int32.ofInt_toInt] at kk
    exact kk
  · exact hs.elim

set_option maxHeartbeats 1000000 in
theorem jm_t_ixor (hC : jm_Cx p R s m meth c D aC ba ex X n d B n0 t0) {i : Nat} {pc len : Nat} {res : List Int} {L : jm_L} {st : List jm_V} {h : jm_H} (he : P[i]? = some (pc, .ixor, len, res)) (hdc : decode (jm_co n) pc = .ok (.ixor, len)) (hck : jm_chk n P i (pc, .ixor, len, res) = true)
    (hs : jm_sem X C B Q (jm_It p l e R s m args below meth c D aC ba ex P n B n0 t0 Qz) (pc, .ixor, len, res) i L st h) : jm_It p l e R s m args below meth c D aC ba ex P n B n0 t0 Qz i L st h := by
  intro e' he' H locs cells slots ls hS hL hst
  cases he.symm.trans he'
  obtain ⟨hx, hb, hml, hown, hE, hXt, hsz, hin, hfr, hlo, hBc, hBs⟩ := hC
  simp only [jm_chk] at hck
  simp only [jm_sem] at hs
  obtain ⟨hl1, e1, g1, g2⟩ := jm_c_spec hck
  dsimp only at hl1 g2
  subst hl1
  split at hs
  · rename_i b a r
    obtain ⟨vb, hst⟩ := List.forall_mem_cons.mp hst
    obtain ⟨va, hst⟩ := List.forall_mem_cons.mp hst
    have kk := hs e1 g1 H locs cells slots ls hS hL (List.forall_mem_cons.mpr ⟨jm_rI _, hst⟩)
    rw [g2] at kk
    refine lv_ixor hx hb hdc ?_
    simp only [List.map_cons, jm_rv, jm_xor, Int32.ofInt_toInt] at kk
    exact kk
  · exact hs.elim

set_option maxHeartbeats 1000000 in
theorem jm_t_ishl (hC : jm_Cx p R s m meth c D aC ba ex X n d B n0 t0) {i : Nat} {pc len : Nat} {res : List Int} {L : jm_L} {st : List jm_V} {h : jm_H} (he : P[i]? = some (pc, .ishl, len, res)) (hdc : decode (jm_co n) pc = .ok (.ishl, len)) (hck : jm_chk n P i (pc, .ishl, len, res) = true)
    (hs : jm_sem X C B Q (jm_It p l e R s m args below meth c D aC ba ex P n B n0 t0 Qz) (pc, .ishl, len, res) i L st h) : jm_It p l e R s m args below meth c D aC ba ex P n B n0 t0 Qz i L st h := by
  intro e' he' H locs cells slots ls hS hL hst
  cases he.symm.trans he'
  obtain ⟨hx, hb, hml, hown, hE, hXt, hsz, hin, hfr, hlo, hBc, hBs⟩ := hC
  simp only [jm_chk] at hck
  simp only [jm_sem] at hs
  obtain ⟨hl1, e1, g1, g2⟩ := jm_c_spec hck
  dsimp only at hl1 g2
  subst hl1
  split at hs
  · rename_i b a r
    obtain ⟨vb, hst⟩ := List.forall_mem_cons.mp hst
    obtain ⟨va, hst⟩ := List.forall_mem_cons.mp hst
    have kk := hs e1 g1 H locs cells slots ls hS hL (List.forall_mem_cons.mpr ⟨jm_rI _, hst⟩)
    rw [g2] at kk
    refine lv_ishl hx hb hdc ?_
    simp only [List.map_cons, jm_rv, jm_shl, Int32.ofInt_toInt] at kk
    exact kk
  · exact hs.elim

set_option maxHeartbeats 1000000 in
theorem jm_t_ishr (hC : jm_Cx p R s m meth c D aC ba ex X n d B n0 t0) {i : Nat} {pc len : Nat} {res : List Int} {L : jm_L} {st : List jm_V} {h : jm_H} (he : P[i]? = some (pc, .ishr, len, res)) (hdc : decode (jm_co n) pc = .ok (.ishr, len)) (hck : jm_chk n P i (pc, .ishr, len, res) = true)
    (hs : jm_sem X C B Q (jm_It p l e R s m args below meth c D aC ba ex P n B n0 t0 Qz) (pc, .ishr, len, res) i L st h) : jm_It p l e R s m args below meth c D aC ba ex P n B n0 t0 Qz i L st h := by
  intro e' he' H locs cells slots ls hS hL hst
  cases he.symm.trans he'
  obtain ⟨hx, hb, hml, hown, hE, hXt, hsz, hin, hfr, hlo, hBc, hBs⟩ := hC
  simp only [jm_chk] at hck
  simp only [jm_sem] at hs
  obtain ⟨hl1, e1, g1, g2⟩ := jm_c_spec hck
  dsimp only at hl1 g2
  subst hl1
  split at hs
  · rename_i b a r
    obtain ⟨vb, hst⟩ := List.forall_mem_cons.mp hst
    obtain ⟨va, hst⟩ := List.forall_mem_cons.mp hst
    have kk := hs e1 g1 H locs cells slots ls hS hL (List.forall_mem_cons.mpr ⟨jm_rI _, hst⟩)
    rw [g2] at kk
    refine lv_ishr hx hb hdc ?_
    simp only [List.map_cons, jm_rv, jm_shr, Int32.ofInt_toInt] at kk
    exact kk
  · exact hs.elim

set_option maxHeartbeats 1000000 in
theorem jm_t_iushr (hC : jm_Cx p R s m meth c D aC ba ex X n d B n0 t0) {i : Nat} {pc len : Nat} {res : List Int} {L : jm_L} {st : List jm_V} {h : jm_H} (he : P[i]? = some (pc, .iushr, len, res)) (hdc : decode (jm_co n) pc = .ok (.iushr, len)) (hck : jm_chk n P i (pc, .iushr, len, res) = true)
    (hs : jm_sem X C B Q (jm_It p l e R s m args below meth c D aC ba ex P n B n0 t0 Qz) (pc, .iushr, len, res) i L st h) : jm_It p l e R s m args below meth c D aC ba ex P n B n0 t0 Qz i L st h := by
  intro e' he' H locs cells slots ls hS hL hst
  cases he.symm.trans he'
  obtain ⟨hx, hb, hml, hown, hE, hXt, hsz, hin, hfr, hlo, hBc, hBs⟩ := hC
  simp only [jm_chk] at hck
  simp only [jm_sem] at hs
  obtain ⟨hl1, e1, g1, g2⟩ := jm_c_spec hck
  dsimp only at hl1 g2
  subst hl1
  split at hs
  · rename_i b a r
    obtain ⟨vb, hst⟩ := List.forall_mem_cons.mp hst
    obtain ⟨va, hst⟩ := List.forall_mem_cons.mp hst
    have kk := hs e1 g1 H locs cells slots ls hS hL (List.forall_mem_cons.mpr ⟨jm_rI _, hst⟩)
    rw [g2] at kk
    refine lv_iushr hx hb hdc rfl ?_
    simp only [List.map_cons, jm_rv, jm_ushr, Int32.ofInt_toInt] at kk
    exact kk
  · exact hs.elim

set_option maxHeartbeats 1000000 in
theorem jm_t_ladd (hC : jm_Cx p R s m meth c D aC ba ex X n d B n0 t0) {i : Nat} {pc len : Nat} {res : List Int} {L : jm_L} {st : List jm_V} {h : jm_H} (he : P[i]? = some (pc, .ladd, len, res)) (hdc : decode (jm_co n) pc = .ok (.ladd, len)) (hck : jm_chk n P i (pc, .ladd, len, res) = true)
    (hs : jm_sem X C B Q (jm_It p l e R s m args below meth c D aC ba ex P n B n0 t0 Qz) (pc, .ladd, len, res) i L st h) : jm_It p l e R s m args below meth c D aC ba ex P n B n0 t0 Qz i L st h := by
  intro e' he' H locs cells slots ls hS hL hst
  cases he.symm.trans he'
  obtain ⟨hx, hb, hml, hown, hE, hXt, hsz, hin, hfr, hlo, hBc, hBs⟩ := hC
  simp only [jm_chk] at hck
  simp only [jm_sem] at hs
  obtain ⟨hl1, e1, g1, g2⟩ := jm_c_spec hck
  dsimp only at hl1 g2
  subst hl1
  split at hs
  · rename_i b a r
    obtain ⟨vb, hst⟩ := List.forall_mem_cons.mp hst
    obtain ⟨va, hst⟩ := List.forall_mem_cons.mp hst
    obtain ⟨hr, hs⟩ := hs
    have kk := hs e1 g1 H locs cells slots ls hS hL (List.forall_mem_cons.mpr ⟨hr, hst⟩)
    rw [g2] at kk
    refine lv_ladd hx hb hdc ?_
    rw [← Int64.ofInt_add]
    exact kk
  · exact hs.elim

set_option maxHeartbeats 1000000 in
theorem jm_t_lmul (hC : jm_Cx p R s m meth c D aC ba ex X n d B n0 t0) {i : Nat} {pc len : Nat} {res : List Int} {L : jm_L} {st : List jm_V} {h : jm_H} (he : P[i]? = some (pc, .lmul, len, res)) (hdc : decode (jm_co n) pc = .ok (.lmul, len)) (hck : jm_chk n P i (pc, .lmul, len, res) = true)
    (hs : jm_sem X C B Q (jm_It p l e R s m args below meth c D aC ba ex P n B n0 t0 Qz) (pc, .lmul, len, res) i L st h) : jm_It p l e R s m args below meth c D aC ba ex P n B n0 t0 Qz i L st h := by
  intro e' he' H locs cells slots ls hS hL hst
  cases he.symm.trans he'
  obtain ⟨hx, hb, hml, hown, hE, hXt, hsz, hin, hfr, hlo, hBc, hBs⟩ := hC
  simp only [jm_chk] at hck
  simp only [jm_sem] at hs
  obtain ⟨hl1, e1, g1, g2⟩ := jm_c_spec hck
  dsimp only at hl1 g2
  subst hl1
  split at hs
  · rename_i b a r
    obtain ⟨vb, hst⟩ := List.forall_mem_cons.mp hst
    obtain ⟨va, hst⟩ := List.forall_mem_cons.mp hst
    obtain ⟨hr, hs⟩ := hs
    have kk := hs e1 g1 H locs cells slots ls hS hL (List.forall_mem_cons.mpr ⟨hr, hst⟩)
    rw [g2] at kk
    refine lv_lmul hx hb hdc ?_
    rw [← Int64.ofInt_mul]
    exact kk
  · exact hs.elim

set_option maxHeartbeats 1000000 in
theorem jm_t_lrem (hC : jm_Cx p R s m meth c D aC ba ex X n d B n0 t0) {i : Nat} {pc len : Nat} {res : List Int} {L : jm_L} {st : List jm_V} {h : jm_H} (he : P[i]? = some (pc, .lrem, len, res)) (hdc : decode (jm_co n) pc = .ok (.lrem, len)) (hck : jm_chk n P i (pc, .lrem, len, res) = true)
    (hs : jm_sem X C B Q (jm_It p l e R s m args below meth c D aC ba ex P n B n0 t0 Qz) (pc, .lrem, len, res) i L st h) : jm_It p l e R s m args below meth c D aC ba ex P n B n0 t0 Qz i L st h := by
  intro e' he' H locs cells slots ls hS hL hst
  cases he.symm.trans he'
  obtain ⟨hx, hb, hml, hown, hE, hXt, hsz, hin, hfr, hlo, hBc, hBs⟩ := hC
  simp only [jm_chk] at hck
  simp only [jm_sem] at hs
  obtain ⟨hl1, e1, g1, g2⟩ := jm_c_spec hck
  dsimp only at hl1 g2
  subst hl1
  split at hs
  · rename_i b a r
    obtain ⟨vb, hst⟩ := List.forall_mem_cons.mp hst
    obtain ⟨va, hst⟩ := List.forall_mem_cons.mp hst
    obtain ⟨hr, hs⟩ := hs
    have kk := hs e1 g1 H locs cells slots ls hS hL (List.forall_mem_cons.mpr ⟨jm_rlmod vb hr.2, hst⟩)
    rw [g2] at kk
    have hne : ¬ Int64.ofInt b = 0 := by
      intro q
      have h9 : (Int64.ofInt b).toInt = 0 := by rw [q]; rfl
      rw [jm_tl vb] at h9
      omega
    refine lv_lrem hx hb hdc hne ?_
    rw [jm_lmod va vb hr.1 hr.2]
    exact kk
  · exact hs.elim

set_option maxHeartbeats 1000000 in
theorem jm_t_lcmp (hC : jm_Cx p R s m meth c D aC ba ex X n d B n0 t0) {i : Nat} {pc len : Nat} {res : List Int} {L : jm_L} {st : List jm_V} {h : jm_H} (he : P[i]? = some (pc, .lcmp, len, res)) (hdc : decode (jm_co n) pc = .ok (.lcmp, len)) (hck : jm_chk n P i (pc, .lcmp, len, res) = true)
    (hs : jm_sem X C B Q (jm_It p l e R s m args below meth c D aC ba ex P n B n0 t0 Qz) (pc, .lcmp, len, res) i L st h) : jm_It p l e R s m args below meth c D aC ba ex P n B n0 t0 Qz i L st h := by
  intro e' he' H locs cells slots ls hS hL hst
  cases he.symm.trans he'
  obtain ⟨hx, hb, hml, hown, hE, hXt, hsz, hin, hfr, hlo, hBc, hBs⟩ := hC
  simp only [jm_chk] at hck
  simp only [jm_sem] at hs
  obtain ⟨hl1, e1, g1, g2⟩ := jm_c_spec hck
  dsimp only at hl1 g2
  subst hl1
  split at hs
  · rename_i b a r
    obtain ⟨vb, hst⟩ := List.forall_mem_cons.mp hst
    obtain ⟨va, hst⟩ := List.forall_mem_cons.mp hst
    have kk := hs e1 g1 H locs cells slots ls hS hL (List.forall_mem_cons.mpr ⟨jm_rc a b, hst⟩)
    rw [g2] at kk
    refine W.lcmp hx hb hdc ?_
    rw [jm_lc va vb]
    exact kk
  · exact hs.elim

set_option maxHeartbeats 1000000 in
theorem jm_t_ineg (hC : jm_Cx p R s m meth c D aC ba ex X n d B n0 t0) {i : Nat} {pc len : Nat} {res : List Int} {L : jm_L} {st : List jm_V} {h : jm_H} (he : P[i]? = some (pc, .ineg, len, res)) (hdc : decode (jm_co n) pc = .ok (.ineg, len)) (hck : jm_chk n P i (pc, .ineg, len, res) = true)
    (hs : jm_sem X C B Q (jm_It p l e R s m args below meth c D aC ba ex P n B n0 t0 Qz) (pc, .ineg, len, res) i L st h) : jm_It p l e R s m args below meth c D aC ba ex P n B n0 t0 Qz i L st h := by
  intro e' he' H locs cells slots ls hS hL hst
  cases he.symm.trans he'
  obtain ⟨hx, hb, hml, hown, hE, hXt, hsz, hin, hfr, hlo, hBc, hBs⟩ := hC
  simp only [jm_chk] at hck
  simp only [jm_sem] at hs
  obtain ⟨hl1, e1, g1, g2⟩ := jm_c_spec hck
  dsimp only at hl1 g2
  subst hl1
  split at hs
  · rename_i a r
    obtain ⟨va, hst⟩ := List.forall_mem_cons.mp hst
    obtain ⟨hr, hs⟩ := hs
    have kk := hs e1 g1 H locs cells slots ls hS hL (List.forall_mem_cons.mpr ⟨hr, hst⟩)
    rw [g2] at kk
    refine lv_ineg hx hb hdc ?_
    rw [Int32.neg_ofInt]
    exact kk
  · exact hs.elim

set_option maxHeartbeats 1000000 in
theorem jm_t_i2l (hC : jm_Cx p R s m meth c D aC ba ex X n d B n0 t0) {i : Nat} {pc len : Nat} {res : List Int} {L : jm_L} {st : List jm_V} {h : jm_H} (he : P[i]? = some (pc, .i2l, len, res)) (hdc : decode (jm_co n) pc = .ok (.i2l, len)) (hck : jm_chk n P i (pc, .i2l, len, res) = true)
    (hs : jm_sem X C B Q (jm_It p l e R s m args below meth c D aC ba ex P n B n0 t0 Qz) (pc, .i2l, len, res) i L st h) : jm_It p l e R s m args below meth c D aC ba ex P n B n0 t0 Qz i L st h := by
  intro e' he' H locs cells slots ls hS hL hst
  cases he.symm.trans he'
  obtain ⟨hx, hb, hml, hown, hE, hXt, hsz, hin, hfr, hlo, hBc, hBs⟩ := hC
  simp only [jm_chk] at hck
  simp only [jm_sem] at hs
  obtain ⟨hl1, e1, g1, g2⟩ := jm_c_spec hck
  dsimp only at hl1 g2
  subst hl1
  split at hs
  · rename_i a r
    obtain ⟨va, hst⟩ := List.forall_mem_cons.mp hst
    have kk := hs e1 g1 H locs cells slots ls hS hL (List.forall_mem_cons.mpr ⟨⟨by have h8 : jm_r a := va; omega, by have h8 : jm_r a := va; omega⟩, hst⟩)
    rw [g2] at kk
    exact lv_i2l hx hb hdc (jm_i2l va) kk
  · exact hs.elim

set_option maxHeartbeats 1000000 in
theorem jm_t_l2i (hC : jm_Cx p R s m meth c D aC ba ex X n d B n0 t0) {i : Nat} {pc len : Nat} {res : List Int} {L : jm_L} {st : List jm_V} {h : jm_H} (he : P[i]? = some (pc, .l2i, len, res)) (hdc : decode (jm_co n) pc = .ok (.l2i, len)) (hck : jm_chk n P i (pc, .l2i, len, res) = true)
    (hs : jm_sem X C B Q (jm_It p l e R s m args below meth c D aC ba ex P n B n0 t0 Qz) (pc, .l2i, len, res) i L st h) : jm_It p l e R s m args below meth c D aC ba ex P n B n0 t0 Qz i L st h := by
  intro e' he' H locs cells slots ls hS hL hst
  cases he.symm.trans he'
  obtain ⟨hx, hb, hml, hown, hE, hXt, hsz, hin, hfr, hlo, hBc, hBs⟩ := hC
  simp only [jm_chk] at hck
  simp only [jm_sem] at hs
  obtain ⟨hl1, e1, g1, g2⟩ := jm_c_spec hck
  dsimp only at hl1 g2
  subst hl1
  split at hs
  · rename_i a r
    obtain ⟨va, hst⟩ := List.forall_mem_cons.mp hst
    obtain ⟨hr, hs⟩ := hs
    have kk := hs e1 g1 H locs cells slots ls hS hL (List.forall_mem_cons.mpr ⟨hr, hst⟩)
    rw [g2] at kk
    exact lv_l2i hx hb hdc (by rw [Int64.toInt32_ofInt]) kk
  · exact hs.elim

set_option maxHeartbeats 1000000 in
theorem jm_t_i2b (hC : jm_Cx p R s m meth c D aC ba ex X n d B n0 t0) {i : Nat} {pc len : Nat} {res : List Int} {L : jm_L} {st : List jm_V} {h : jm_H} (he : P[i]? = some (pc, .i2b, len, res)) (hdc : decode (jm_co n) pc = .ok (.i2b, len)) (hck : jm_chk n P i (pc, .i2b, len, res) = true)
    (hs : jm_sem X C B Q (jm_It p l e R s m args below meth c D aC ba ex P n B n0 t0 Qz) (pc, .i2b, len, res) i L st h) : jm_It p l e R s m args below meth c D aC ba ex P n B n0 t0 Qz i L st h := by
  intro e' he' H locs cells slots ls hS hL hst
  cases he.symm.trans he'
  obtain ⟨hx, hb, hml, hown, hE, hXt, hsz, hin, hfr, hlo, hBc, hBs⟩ := hC
  simp only [jm_chk] at hck
  simp only [jm_sem] at hs
  obtain ⟨hl1, e1, g1, g2⟩ := jm_c_spec hck
  dsimp only at hl1 g2
  subst hl1
  split at hs
  · rename_i a r
    obtain ⟨va, hst⟩ := List.forall_mem_cons.mp hst
    have kk := hs e1 g1 H locs cells slots ls hS hL (List.forall_mem_cons.mpr ⟨jm_rb a, hst⟩)
    rw [g2] at kk
    exact lv_i2b hx hb hdc (jm_b va) kk
  · exact hs.elim

set_option maxHeartbeats 1000000 in
theorem jm_t_i2s (hC : jm_Cx p R s m meth c D aC ba ex X n d B n0 t0) {i : Nat} {pc len : Nat} {res : List Int} {L : jm_L} {st : List jm_V} {h : jm_H} (he : P[i]? = some (pc, .i2s, len, res)) (hdc : decode (jm_co n) pc = .ok (.i2s, len)) (hck : jm_chk n P i (pc, .i2s, len, res) = true)
    (hs : jm_sem X C B Q (jm_It p l e R s m args below meth c D aC ba ex P n B n0 t0 Qz) (pc, .i2s, len, res) i L st h) : jm_It p l e R s m args below meth c D aC ba ex P n B n0 t0 Qz i L st h := by
  intro e' he' H locs cells slots ls hS hL hst
  cases he.symm.trans he'
  obtain ⟨hx, hb, hml, hown, hE, hXt, hsz, hin, hfr, hlo, hBc, hBs⟩ := hC
  simp only [jm_chk] at hck
  simp only [jm_sem] at hs
  obtain ⟨hl1, e1, g1, g2⟩ := jm_c_spec hck
  dsimp only at hl1 g2
  subst hl1
  split at hs
  · rename_i a r
    obtain ⟨va, hst⟩ := List.forall_mem_cons.mp hst
    have kk := hs e1 g1 H locs cells slots ls hS hL (List.forall_mem_cons.mpr ⟨jm_rs a, hst⟩)
    rw [g2] at kk
    exact lv_i2s hx hb hdc (jm_s va) kk
  · exact hs.elim

set_option maxHeartbeats 1000000 in
theorem jm_t_dup (hC : jm_Cx p R s m meth c D aC ba ex X n d B n0 t0) {i : Nat} {pc len : Nat} {res : List Int} {L : jm_L} {st : List jm_V} {h : jm_H} (he : P[i]? = some (pc, .dup, len, res)) (hdc : decode (jm_co n) pc = .ok (.dup, len)) (hck : jm_chk n P i (pc, .dup, len, res) = true)
    (hs : jm_sem X C B Q (jm_It p l e R s m args below meth c D aC ba ex P n B n0 t0 Qz) (pc, .dup, len, res) i L st h) : jm_It p l e R s m args below meth c D aC ba ex P n B n0 t0 Qz i L st h := by
  intro e' he' H locs cells slots ls hS hL hst
  cases he.symm.trans he'
  obtain ⟨hx, hb, hml, hown, hE, hXt, hsz, hin, hfr, hlo, hBc, hBs⟩ := hC
  simp only [jm_chk] at hck
  simp only [jm_sem] at hs
  obtain ⟨hl1, e1, g1, g2⟩ := jm_c_spec hck
  dsimp only at hl1 g2
  subst hl1
  split at hs
  · rename_i a r
    have va := (List.forall_mem_cons.mp hst).1
    have kk := hs e1 g1 H locs cells slots ls hS hL (List.forall_mem_cons.mpr ⟨va, hst⟩)
    rw [g2] at kk
    exact lv_dup hx hb hdc rfl kk
  · rename_i a r
    have va := (List.forall_mem_cons.mp hst).1
    have kk := hs e1 g1 H locs cells slots ls hS hL (List.forall_mem_cons.mpr ⟨va, hst⟩)
    rw [g2] at kk
    exact lv_dup hx hb hdc (jm_ref_cat ba ex a) kk
  · exact hs.elim

set_option maxHeartbeats 1000000 in
theorem jm_t_dup2 (hC : jm_Cx p R s m meth c D aC ba ex X n d B n0 t0) {i : Nat} {pc len : Nat} {res : List Int} {L : jm_L} {st : List jm_V} {h : jm_H} (he : P[i]? = some (pc, .dup2, len, res)) (hdc : decode (jm_co n) pc = .ok (.dup2, len)) (hck : jm_chk n P i (pc, .dup2, len, res) = true)
    (hs : jm_sem X C B Q (jm_It p l e R s m args below meth c D aC ba ex P n B n0 t0 Qz) (pc, .dup2, len, res) i L st h) : jm_It p l e R s m args below meth c D aC ba ex P n B n0 t0 Qz i L st h := by
  intro e' he' H locs cells slots ls hS hL hst
  cases he.symm.trans he'
  obtain ⟨hx, hb, hml, hown, hE, hXt, hsz, hin, hfr, hlo, hBc, hBs⟩ := hC
  simp only [jm_chk] at hck
  simp only [jm_sem] at hs
  obtain ⟨hl1, e1, g1, g2⟩ := jm_c_spec hck
  dsimp only at hl1 g2
  subst hl1
  split at hs
  · rename_i a b r
    have h1 := List.forall_mem_cons.mp hst
    have h2 := List.forall_mem_cons.mp h1.2
    have kk := hs e1 g1 H locs cells slots ls hS hL (List.forall_mem_cons.mpr ⟨h1.1, List.forall_mem_cons.mpr ⟨h2.1, hst⟩⟩)
    rw [g2] at kk
    exact lv_dup2_11 hx hb hdc rfl (jm_ref_cat ba ex b) kk
  · exact hs.elim

set_option maxHeartbeats 1000000 in
theorem jm_t_pop (hC : jm_Cx p R s m meth c D aC ba ex X n d B n0 t0) {i : Nat} {pc len : Nat} {res : List Int} {L : jm_L} {st : List jm_V} {h : jm_H} (he : P[i]? = some (pc, .pop, len, res)) (hdc : decode (jm_co n) pc = .ok (.pop, len)) (hck : jm_chk n P i (pc, .pop, len, res) = true)
    (hs : jm_sem X C B Q (jm_It p l e R s m args below meth c D aC ba ex P n B n0 t0 Qz) (pc, .pop, len, res) i L st h) : jm_It p l e R s m args below meth c D aC ba ex P n B n0 t0 Qz i L st h := by
  intro e' he' H locs cells slots ls hS hL hst
  cases he.symm.trans he'
  obtain ⟨hx, hb, hml, hown, hE, hXt, hsz, hin, hfr, hlo, hBc, hBs⟩ := hC
  simp only [jm_chk] at hck
  simp only [jm_sem] at hs
  obtain ⟨hl1, e1, g1, g2⟩ := jm_c_spec hck
  dsimp only at hl1 g2
  subst hl1
  split at hs
  · rename_i a r
    have kk := hs e1 g1 H locs cells slots ls hS hL (List.forall_mem_cons.mp hst).2
    rw [g2] at kk
    exact lv_pop hx hb hdc rfl kk
  · exact hs.elim

set_option maxHeartbeats 1000000 in
theorem jm_t_ifCond {cd : Jvm.ClassFile.Cond} {off : Int} (hC : jm_Cx p R s m meth c D aC ba ex X n d B n0 t0) {i : Nat} {pc len : Nat} {res : List Int} {L : jm_L} {st : List jm_V} {h : jm_H} (he : P[i]? = some (pc, .ifCond cd off, len, res)) (hdc : decode (jm_co n) pc = .ok (.ifCond cd off, len)) (hck : jm_chk n P i (pc, .ifCond cd off, len, res) = true)
    (hs : jm_sem X C B Q (jm_It p l e R s m args below meth c D aC ba ex P n B n0 t0 Qz) (pc, .ifCond cd off, len, res) i L st h) : jm_It p l e R s m args below meth c D aC ba ex P n B n0 t0 Qz i L st h := by
  intro e' he' H locs cells slots ls hS hL hst
  cases he.symm.trans he'
  obtain ⟨hx, hb, hml, hown, hE, hXt, hsz, hin, hfr, hlo, hBc, hBs⟩ := hC
  simp only [jm_chk, Bool.and_eq_true] at hck
  simp only [jm_sem] at hs
  obtain ⟨hc1, hc2⟩ := hck
  obtain ⟨hl1, e1, g1, g2⟩ := jm_c_spec hc1
  dsimp only at hl1 g2
  subst hl1
  split at hs
  · rename_i a r t
    obtain ⟨va, hst⟩ := List.forall_mem_cons.mp hst
    have vb := jm_r0
    obtain ⟨e2, g3, g4⟩ := jm_jmp_spec hc2
    have k1 := fun q => hs.1 q e2 g3 H locs cells slots ls hS hL hst
    have k2 := fun q => hs.2 q e1 g1 H locs cells slots ls hS hL hst
    rw [g2] at k2
    cases cd
    case eq => exact lv_if_eq hx hb hdc g4 (fun q => k1 ((jm_eq va vb).mp q)) (fun q => k2 (fun z => q ((jm_eq va vb).mpr z)))
    case ne => exact lv_if_ne hx hb hdc g4 (fun q => k1 (fun z => q ((jm_eq va vb).mpr z))) (fun q => k2 (fun z => z ((jm_eq va vb).mp q)))
    case lt => exact lv_if_lt hx hb hdc g4 (fun q => k1 ((jm_lt va vb).mp q)) (fun q => k2 (fun z => q ((jm_lt va vb).mpr z)))
    case ge => exact lv_if_ge hx hb hdc g4 (fun q => k1 ((jm_le vb va).mp q)) (fun q => k2 (fun z => q ((jm_le vb va).mpr z)))
    case gt => exact lv_if_gt hx hb hdc g4 (fun q => k1 ((jm_lt vb va).mp q)) (fun q => k2 (fun z => q ((jm_lt vb va).mpr z)))
    case le => exact lv_if_le hx hb hdc g4 (fun q => k1 ((jm_le va vb).mp q)) (fun q => k2 (fun z => q ((jm_le va vb).mpr z)))
  · exact hs.elim

set_option maxHeartbeats 1000000 in
theorem jm_t_if_icmp {cd : Jvm.ClassFile.Cond} {off : Int} (hC : jm_Cx p R s m meth c D aC ba ex X n d B n0 t0) {i : Nat} {pc len : Nat} {res : List Int} {L : jm_L} {st : List jm_V} {h : jm_H} (he : P[i]? = some (pc, .if_icmp cd off, len, res)) (hdc : decode (jm_co n) pc = .ok (.if_icmp cd off, len)) (hck : jm_chk n P i (pc, .if_icmp cd off, len, res) = true)
    (hs : jm_sem X C B Q (jm_It p l e R s m args below meth c D aC ba ex P n B n0 t0 Qz) (pc, .if_icmp cd off, len, res) i L st h) : jm_It p l e R s m args below meth c D aC ba ex P n B n0 t0 Qz i L st h := by
  intro e' he' H locs cells slots ls hS hL hst
  cases he.symm.trans he'
  obtain ⟨hx, hb, hml, hown, hE, hXt, hsz, hin, hfr, hlo, hBc, hBs⟩ := hC
  simp only [jm_chk, Bool.and_eq_true] at hck
  simp only [jm_sem] at hs
  obtain ⟨hc1, hc2⟩ := hck
  obtain ⟨hl1, e1, g1, g2⟩ := jm_c_spec hc1
  dsimp only at hl1 g2
  subst hl1
  split at hs
  · rename_i b a r t
    obtain ⟨vb, hst⟩ := List.forall_mem_cons.mp hst
    obtain ⟨va, hst⟩ := List.forall_mem_cons.mp hst
    obtain ⟨e2, g3, g4⟩ := jm_jmp_spec hc2
    have k1 := fun q => hs.1 q e2 g3 H locs cells slots ls hS hL hst
    have k2 := fun q => hs.2 q e1 g1 H locs cells slots ls hS hL hst
    rw [g2] at k2
    cases cd
    case eq => exact lv_icmp_eq hx hb hdc g4 (fun q => k1 ((jm_eq va vb).mp q)) (fun q => k2 (fun z => q ((jm_eq va vb).mpr z)))
    case ne => exact lv_icmp_ne hx hb hdc g4 (fun q => k1 (fun z => q ((jm_eq va vb).mpr z))) (fun q => k2 (fun z => z ((jm_eq va vb).mp q)))
    case lt => exact lv_icmp_lt hx hb hdc g4 (fun q => k1 ((jm_lt va vb).mp q)) (fun q => k2 (fun z => q ((jm_lt va vb).mpr z)))
    case ge => exact lv_icmp_ge hx hb hdc g4 (fun q => k1 ((jm_le vb va).mp q)) (fun q => k2 (fun z => q ((jm_le vb va).mpr z)))
    case gt => exact lv_icmp_gt hx hb hdc g4 (fun q => k1 ((jm_lt vb va).mp q)) (fun q => k2 (fun z => q ((jm_lt vb va).mpr z)))
    case le => exact lv_icmp_le hx hb hdc g4 (fun q => k1 ((jm_le va vb).mp q)) (fun q => k2 (fun z => q ((jm_le va vb).mpr z)))
  · exact hs.elim

set_option maxHeartbeats 1000000 in
theorem jm_t_goto {off : Int} (hC : jm_Cx p R s m meth c D aC ba ex X n d B n0 t0) {i : Nat} {pc len : Nat} {res : List Int} {L : jm_L} {st : List jm_V} {h : jm_H} (he : P[i]? = some (pc, .goto off, len, res)) (hdc : decode (jm_co n) pc = .ok (.goto off, len)) (hck : jm_chk n P i (pc, .goto off, len, res) = true)
    (hs : jm_sem X C B Q (jm_It p l e R s m args below meth c D aC ba ex P n B n0 t0 Qz) (pc, .goto off, len, res) i L st h) : jm_It p l e R s m args below meth c D aC ba ex P n B n0 t0 Qz i L st h := by
  intro e' he' H locs cells slots ls hS hL hst
  cases he.symm.trans he'
  obtain ⟨hx, hb, hml, hown, hE, hXt, hsz, hin, hfr, hlo, hBc, hBs⟩ := hC
  simp only [jm_chk, Bool.and_eq_true, beq_iff_eq] at hck
  simp only [jm_sem] at hs
  obtain ⟨hc1, hc2⟩ := hck
  subst hc1
  split at hs
  · obtain ⟨e2, g3, g4⟩ := jm_jmp_spec hc2
    exact lv_goto hx hb hdc g4 (hs e2 g3 H locs cells slots ls hS hL hst)
  · exact hs.elim

set_option maxHeartbeats 1000000 in
theorem jm_t_tableswitch {dd lo hi : Int} {offs : Array Int} (hC : jm_Cx p R s m meth c D aC ba ex X n d B n0 t0) {i : Nat} {pc len : Nat} {res : List Int} {L : jm_L} {st : List jm_V} {h : jm_H} (he : P[i]? = some (pc, .tableswitch dd lo hi offs, len, res)) (hdc : decode (jm_co n) pc = .ok (.tableswitch dd lo hi offs, len)) (hck : jm_chk n P i (pc, .tableswitch dd lo hi offs, len, res) = true)
    (hs : jm_sem X C B Q (jm_It p l e R s m args below meth c D aC ba ex P n B n0 t0 Qz) (pc, .tableswitch dd lo hi offs, len, res) i L st h) : jm_It p l e R s m args below meth c D aC ba ex P n B n0 t0 Qz i L st h := by
  intro e' he' H locs cells slots ls hS hL hst
  cases he.symm.trans he'
  obtain ⟨hx, hb, hml, hown, hE, hXt, hsz, hin, hfr, hlo, hBc, hBs⟩ := hC
  simp only [jm_chk, Bool.and_eq_true, decide_eq_true_eq] at hck
  simp only [jm_sem] at hs
  obtain ⟨hc1, hc2⟩ := hck
  split at hs
  · rename_i a r
    obtain ⟨va, hst⟩ := List.forall_mem_cons.mp hst
    have va : jm_r a := va
    rcases jm_ckt_spec lo offs.toList res hc2 hs with ⟨j, off, t, e1, e2, e3, e4⟩ | ⟨e1, t, e3, e4⟩
    · obtain ⟨e5, g3, g4⟩ := jm_jmp_spec e3
      have hj : j < offs.toList.length := (List.getElem?_eq_some_iff.mp e2).1
      refine lv_tableIn hx hb hdc (by rw [jm_ti va]; omega) (by rw [jm_ti va]; omega) (off := off) ?_ g4 (e4 e5 g3 H locs cells slots ls hS hL hst)
      rw [jm_ti va, e1, show (lo + (j : Int) - lo).toNat = j by omega, ← Array.getElem?_toList]
      exact e2
    · obtain ⟨e5, g3, g4⟩ := jm_jmp_spec e3
      exact lv_tableOut hx hb hdc (by rw [jm_ti va]; omega) g4 (e4 e5 g3 H locs cells slots ls hS hL hst)
  · exact hs.elim

set_option maxHeartbeats 1000000 in
theorem jm_t_lookupswitch {dd : Int} {ps : Array (Int × Int)} (hC : jm_Cx p R s m meth c D aC ba ex X n d B n0 t0) {i : Nat} {pc len : Nat} {res : List Int} {L : jm_L} {st : List jm_V} {h : jm_H} (he : P[i]? = some (pc, .lookupswitch dd ps, len, res)) (hdc : decode (jm_co n) pc = .ok (.lookupswitch dd ps, len)) (hck : jm_chk n P i (pc, .lookupswitch dd ps, len, res) = true)
    (hs : jm_sem X C B Q (jm_It p l e R s m args below meth c D aC ba ex P n B n0 t0 Qz) (pc, .lookupswitch dd ps, len, res) i L st h) : jm_It p l e R s m args below meth c D aC ba ex P n B n0 t0 Qz i L st h := by
  intro e' he' H locs cells slots ls hS hL hst
  cases he.symm.trans he'
  obtain ⟨hx, hb, hml, hown, hE, hXt, hsz, hin, hfr, hlo, hBc, hBs⟩ := hC
  simp only [jm_chk, Bool.and_eq_true] at hck
  simp only [jm_sem] at hs
  obtain ⟨hc1, hc2⟩ := hck
  split at hs
  · rename_i a r
    obtain ⟨va, hst⟩ := List.forall_mem_cons.mp hst
    have va : jm_r a := va
    obtain ⟨t, e3, e4⟩ := jm_ckl_spec ps.toList res hc2 hs
    obtain ⟨e5, g3, g4⟩ := jm_jmp_spec e3
    exact lv_lookup hx hb hdc hc1 (by rw [jm_ti va]) g4 (e4 e5 g3 H locs cells slots ls hS hL hst)
  · exact hs.elim

end JMS
end
section
section JMH
variable {p : Program} {l : Launch} {e : Env} {R : Room} {s : State} {m : MethodId} {args : Array Value} {below : List Frame} {meth : Method} {c : Code} {D : va_G} {aC : Nat → ClassId} {ba : Nat} {ex : Nat → Nat}
variable {X : jm_X} {n d : Nat} {B : Nat × Nat} {n0 t0 : Nat} {P : List jm_E} {Qz : State → Prop} {C : jm_C} {Q : jm_Q}
theorem jm_ent_i {i : Nat} {q : jm_S} {μ : jm_M} (hq : q.1 < 2) : jm_ent aC ba ex i q μ = .inl (aC q.1, (q.2.1, .inl (fun j => Int32.ofInt (μ i j)))) := by simp [jm_ent, hq]
theorem jm_ent_q {i : Nat} {q : jm_S} {μ : jm_M} (h1 : 2 ≤ q.1) (h2 : q.1 < 10) : jm_ent aC ba ex i q μ = .inl (aC q.1, (q.2.1, .inr (.inr (.inr (.inr (fun j => jm_ro ba ex (μ i j))))))) := by
  have h3 : ¬ q.1 < 2 := by omega
  simp [jm_ent, h3, h2]
theorem jm_ent_o {i : Nat} {q : jm_S} {μ : jm_M} {cl : Nat} (h1 : q.1 = 10 + cl) : jm_ent aC ba ex i q μ = .inr (cl, jm_fs ba ex cl i q.2.2 μ) := by
  have h3 : ¬ q.1 < 2 := by omega
  have h4 : ¬ q.1 < 10 := by omega
  have h5 : q.1 - 10 = cl := by omega
  simp [jm_ent, h3, h4, h5]
theorem jm_fs_at {i cl k : Nat} {rf : List Int} {μ : jm_M} (hk : k < jm_N cl) : (jm_fs ba ex cl i rf μ)[k]? = some (if jm_fty cl k = 2 then va_rf (jm_ro ba ex (rf.getD k (-1))) else .int (Int32.ofInt (μ i k))) := by simp [jm_fs, hk]
theorem jm_fs_len {i cl : Nat} {rf : List Int} {μ : jm_M} : (jm_fs ba ex cl i rf μ).length = jm_N cl := by simp [jm_fs]
/-- the size of the heap, where there is a walk -/
theorem jm_Wsz {H : Heap} {locs : List Loc} {cells slots : Nat} {g : JFrame} (k : H.size ≤ s.heap.size + cells → W p l e R s m args below meth c H locs cells slots Qz g) : W p l e R s m args below meth c H locs cells slots Qz g :=
  fun T hT X => k (by rw [← hT]; exact X.heapSize) T hT X
theorem jm_ge {h : jm_H} {H : Heap} (hP : va_P D vwCl (jm_ws aC ba ex h) H) (h0 : ba ≤ H.size) : ba + h.1.length ≤ H.size := by
  by_cases hz : h.1.length = 0
  · omega
  · have hl : h.1.length - 1 < h.1.length := by omega
    have h1 := (hP _ _ (jm_ws_at (List.getElem?_eq_getElem hl))).lt
    dsimp only at h1
    omega
theorem jm_up_r {h : jm_H} (hr : ∀ i j, jm_r (h.2 i j)) {z k v : Int} (hv : jm_r v) : ∀ i j, jm_r (jm_uc h.2 z (jm_u1 (h.2 z) k v) i j) := by
  intro i j
  unfold jm_uc
  split
  · unfold jm_u1
    split
    · exact hv
    · exact hr z j
  · exact hr i j
theorem jm_uc_ne {μ : jm_M} {z a : Int} {f : Int → Int} (h : a ≠ z) : jm_uc μ z f a = μ a := by simp [jm_uc, h]
theorem jm_uc_self {μ : jm_M} {z : Int} {f : Int → Int} : jm_uc μ z f z = f := by simp [jm_uc]
set_option maxHeartbeats 1000000 in
theorem jm_t_getfield {x : Nat} (hC : jm_Cx p R s m meth c D aC ba ex X n d B n0 t0) {i : Nat} {pc len : Nat} {res : List Int} {L : jm_L} {st : List jm_V} {h : jm_H} (he : P[i]? = some (pc, .getfield x, len, res)) (hdc : decode (jm_co n) pc = .ok (.getfield x, len)) (hck : jm_chk n P i (pc, .getfield x, len, res) = true)
    (hs : jm_sem X C B Q (jm_It p l e R s m args below meth c D aC ba ex P n B n0 t0 Qz) (pc, .getfield x, len, res) i L st h) : jm_It p l e R s m args below meth c D aC ba ex P n B n0 t0 Qz i L st h := by
  intro e' he' H locs cells slots ls hS hL hst
  cases he.symm.trans he'
  obtain ⟨hx, hb, hml, hown, hE, hXt, hsz, hin, hfr, hlo, hBc, hBs⟩ := hC
  simp only [jm_chk, Bool.and_eq_true] at hck
  simp only [jm_sem] at hs
  obtain ⟨hc1, hc2⟩ := hck
  obtain ⟨hl1, e1, g1, g2⟩ := jm_c_spec hc1
  dsimp only at hl1 g2
  subst hl1
  split at hs
  · rename_i z r cl k t
    split at hs
    · rename_i q hq
      obtain ⟨⟨hz0, hk0⟩, hs⟩ := hs
      simp only [Bool.and_eq_true, decide_eq_true_eq] at hc2
      obtain ⟨⟨hkk, ht⟩, hany⟩ := hc2
      obtain ⟨w, hw, hw2⟩ := jm_any hany
      simp only [Bool.and_eq_true, beq_iff_eq] at hw2
      obtain ⟨w1, w2, w3, w4⟩ := hw2
      have hok := List.all_eq_true.mp jm_fl_ok w hw
      simp only [Bool.and_eq_true, decide_eq_true_eq] at hok
      have hwd := jm_word hE (jm_hw_in hok.1 _ List.mem_cons_self) rfl args
      unfold jm_flw at hwd
      rw [w1, w2, w3, w4] at hwd
      have hkN : k.toNat < jm_N cl.toNat := by rw [← w3, ← w4]; exact hok.2
      obtain ⟨vc, hvc⟩ := jm_lt_T _ _ hkN
      obtain ⟨hT, hN⟩ := jm_CN_T _ _ hvc
      obtain ⟨ty, -, -, hu, -⟩ := jm_ck _ _ hvc
      rw [hT] at hwd
      obtain ⟨vz, hst⟩ := List.forall_mem_cons.mp hst
      have hent := jm_ws_at (aC := aC) (ba := ba) (ex := ex) hq
      rw [jm_ent_o hk0] at hent
      have hkz : ((k.toNat : Nat) : Int) = k := Int.toNat_of_nonneg hkk
      have hzz : ((z.toNat : Nat) : Int) = z := Int.toNat_of_nonneg hz0
      have hfa := jm_fs_at (ba := ba) (ex := ex) (i := z.toNat) (rf := q.2.2) (μ := h.2) hkN
      rw [hkz, hzz] at hfa
      have kk := hs e1 g1 H locs cells slots ls hS hL (List.forall_mem_cons.mpr ⟨by split; exact trivial; exact hS.2.1 z k, hst⟩)
      rw [g2] at kk
      rw [List.map_cons, jm_rv_own hz0]
      refine va_get (C := vc.1) (T := vc.2.1) (N := vc.2.2) hx hb (jm_Tsb hE args) hu hown hE.2.2.2 hS.1 z.toNat hent hvc k.toNat (by rw [← hN]; exact hkN) hwd (fun _ q => q) hfa hdc ?_
      have ht2 : (t = 2) ↔ (jm_fty cl.toNat k.toNat = 2) := by omega
      by_cases h2 : jm_fty cl.toNat k.toNat = 2
      · rw [if_pos h2]
        rw [if_pos (ht2.mpr h2)] at kk
        exact kk
      · rw [if_neg h2]
        rw [if_neg (fun q => h2 (ht2.mp q))] at kk
        exact kk
    · exact hs.elim
  · exact hs.elim
set_option maxHeartbeats 1000000 in
theorem jm_t_putfield {x : Nat} (hC : jm_Cx p R s m meth c D aC ba ex X n d B n0 t0) {i : Nat} {pc len : Nat} {res : List Int} {L : jm_L} {st : List jm_V} {h : jm_H} (he : P[i]? = some (pc, .putfield x, len, res)) (hdc : decode (jm_co n) pc = .ok (.putfield x, len)) (hck : jm_chk n P i (pc, .putfield x, len, res) = true)
    (hs : jm_sem X C B Q (jm_It p l e R s m args below meth c D aC ba ex P n B n0 t0 Qz) (pc, .putfield x, len, res) i L st h) : jm_It p l e R s m args below meth c D aC ba ex P n B n0 t0 Qz i L st h := by
  intro e' he' H locs cells slots ls hS hL hst
  cases he.symm.trans he'
  obtain ⟨hx, hb, hml, hown, hE, hXt, hsz, hin, hfr, hlo, hBc, hBs⟩ := hC
  simp only [jm_chk, Bool.and_eq_true] at hck
  simp only [jm_sem] at hs
  obtain ⟨hc1, hc2⟩ := hck
  obtain ⟨hl1, e1, g1, g2⟩ := jm_c_spec hc1
  dsimp only at hl1 g2
  subst hl1
  -- what is common to the two kinds of store
  have common : ∀ (z : Int) (r : List jm_V) (cl k t : Int) (q : jm_S) (v : jm_V) (h' : jm_H), h.1[z.toNat]? = some q → 0 ≤ z → q.1 = 10 + cl.toNat → res = [cl, k, t] → (∀ v ∈ r, jm_ok v) →
      (∀ ty, ((jm_fty cl.toNat k.toNat = 0 ∧ ty = .int) ∨ (jm_fty cl.toNat k.toNat = 1 ∧ ty = .boolean) ∨ (jm_fty cl.toNat k.toNat = 2 ∧ (match ty with | .object _ => true | .array _ => true | _ => false) = true)) → narrow ty (jm_rv ba ex v) = jm_rv ba ex v ∧ fits ty (jm_rv ba ex v) = true) →
      (0 ≤ k → k.toNat < jm_N cl.toNat → (jm_ws aC ba ex h).set z.toNat (ba + z.toNat, .inr (cl.toNat, (jm_fs ba ex cl.toNat z.toNat q.2.2 h.2).set k.toNat (jm_rv ba ex v))) = jm_ws aC ba ex h') →
      (∀ i j, jm_r (h'.2 i j)) → h'.1.length = h.1.length → jm_tot h'.1 = jm_tot h.1 →
      jm_It p l e R s m args below meth c D aC ba ex P n B n0 t0 Qz (i + 1) L r h' → W p l e R s m args below meth c H locs cells slots Qz (F0 m pc ls (jm_rv ba ex v :: .ref (ba + z.toNat) :: r.map (jm_rv ba ex))) := by
    intro z r cl k t q v h' hq hz0 hk0 hres hr hty hws hrg hln htt kk
    subst hres
    simp only [Bool.and_eq_true, decide_eq_true_eq, Bool.or_eq_true, beq_iff_eq] at hc2
    obtain ⟨⟨hkk, ht⟩, hany, hfin⟩ := hc2
    obtain ⟨w, hw, hw2⟩ := jm_any hany
    simp only [Bool.and_eq_true, beq_iff_eq] at hw2
    obtain ⟨w1, w2, w3, w4⟩ := hw2
    have hok := List.all_eq_true.mp jm_fl_ok w hw
    simp only [Bool.and_eq_true, decide_eq_true_eq] at hok
    have hwd := jm_word hE (jm_hw_in hok.1 _ List.mem_cons_self) rfl args
    unfold jm_flw at hwd
    rw [w1, w2, w3, w4] at hwd
    have hkN : k.toNat < jm_N cl.toNat := by rw [← w3, ← w4]; exact hok.2
    obtain ⟨vc, hvc⟩ := jm_lt_T _ _ hkN
    obtain ⟨hT, hN⟩ := jm_CN_T _ _ hvc
    obtain ⟨ty, hp, hnm, hu, -, htk, hcn⟩ := jm_ck _ _ hvc
    rw [hT] at hwd hfin
    have hkN2 : k.toNat < vc.2.2 := by rw [← hN]; exact hkN
    have hent := jm_ws_at (aC := aC) (ba := ba) (ex := ex) hq
    rw [jm_ent_o hk0] at hent
    obtain ⟨hn1, hf1⟩ := hty (ty k.toNat) (htk _ hkN2).1
    have fin : ∀ (H1 : Heap) (locs1 : List Loc), va_P D vwCl ((jm_ws aC ba ex h).set z.toNat (ba + z.toNat, .inr (cl.toNat, (jm_fs ba ex cl.toNat z.toNat q.2.2 h.2).set k.toNat (jm_rv ba ex v)))) H1 → va_D (fun q => ba ≤ q) ((jm_ws aC ba ex h).set z.toNat (ba + z.toNat, .inr (cl.toNat, (jm_fs ba ex cl.toNat z.toNat q.2.2 h.2).set k.toNat (jm_rv ba ex v)))) → va_S (fun q => ba ≤ q) s.heap H1 locs1 → W p l e R s m args below meth c H1 locs1 cells slots Qz (F0 m (pc + 3) ls (r.map (jm_rv ba ex))) := by
      intro H1 locs1 a1 _ a3
      rw [hws hkk hkN] at a1
      have k3 := kk e1 g1 H1 locs1 cells slots ls ⟨a1, hrg, a3, by rw [hln]; exact hS.2.2.2.1, by rw [htt]; exact hS.2.2.2.2.1, by rw [hln]; exact hS.2.2.2.2.2.1, by rw [htt]; exact hS.2.2.2.2.2.2⟩ hL hr
      rw [g2] at k3
      exact k3
    rcases hfin with hfin | ⟨hfin1, hfin2⟩
    · exact va_put (C := vc.1) (T := vc.2.1) (N := vc.2.2) hx hb (jm_Tsb hE args) hu ty hp hnm hown hE.2.2.2 hS.1 (jm_ws_D aC ba ex h) hS.2.2.1 z.toNat hent hvc k.toNat hkN2 hwd (fun _ q => q) hfin (hp _ hkN2) hn1 hf1 (by rw [jm_fs_len]; exact hkN) hdc fin
    · by_cases hfb : (vc.2.1 k.toNat).2.2.2 = false
      · exact va_put (C := vc.1) (T := vc.2.1) (N := vc.2.2) hx hb (jm_Tsb hE args) hu ty hp hnm hown hE.2.2.2 hS.1 (jm_ws_D aC ba ex h) hS.2.2.1 z.toNat hent hvc k.toNat hkN2 hwd (fun _ q => q) hfb (hp _ hkN2) hn1 hf1 (by rw [jm_fs_len]; exact hkN) hdc fin
      · exact va_putF (C := vc.1) (T := vc.2.1) (N := vc.2.2) hx hb (jm_Tsb hE args) hu ty hp hnm hown hE.2.2.2 hS.1 (jm_ws_D aC ba ex h) hS.2.2.1 z.toNat hent hvc k.toNat hkN2 hwd (fun _ q => q) (by simpa using hfb) (hin hfin1) (by rw [(htk _ hkN2).2, hcn, hfin2]) (hp _ hkN2) hn1 hf1 (by rw [jm_fs_len]; exact hkN) hdc fin
  split at hs
  · rename_i v z r cl k t
    split at hs
    · rename_i q hq
      obtain ⟨⟨hz0, hk0⟩, hvt, hs⟩ := hs
      obtain ⟨vv, hst⟩ := List.forall_mem_cons.mp hst
      obtain ⟨-, hst⟩ := List.forall_mem_cons.mp hst
      have hzz : ((z.toNat : Nat) : Int) = z := Int.toNat_of_nonneg hz0
      have ht0 : t = (jm_fty cl.toNat k.toNat : Int) := by
        simp only [Bool.and_eq_true, decide_eq_true_eq] at hc2
        exact hc2.1.2
      rw [List.map_cons, List.map_cons, jm_rv_own hz0]
      refine common z r cl k t q (.inl v) (h.1, jm_uc h.2 z (jm_u1 (h.2 z) k v)) hq hz0 hk0 rfl hst ?_ ?_ (jm_up_r hS.2.1 vv) rfl rfl hs
      · intro ty hty
        rcases hty with ⟨a1, rfl⟩ | ⟨a1, rfl⟩ | ⟨a1, a2⟩
        · exact ⟨rfl, rfl⟩
        · rcases hvt with h9 | ⟨-, rfl | rfl⟩
          · omega
          · exact ⟨rfl, rfl⟩
          · exact ⟨rfl, rfl⟩
        · rcases hvt with h9 | ⟨h9, -⟩ <;> omega
      · intro hkk hkN
        have hkz : ((k.toNat : Nat) : Int) = k := Int.toNat_of_nonneg hkk
        refine jm_ws_set (h := h) (h' := (h.1, jm_uc h.2 z (jm_u1 (h.2 z) k v))) rfl hq ?_ (fun j hj => ⟨rfl, jm_uc_ne (by omega)⟩)
        rw [jm_ent_o hk0]
        congr 2
        apply List.ext_getElem?
        intro j
        by_cases hjk : j = k.toNat
        · subst hjk
          rw [List.getElem?_set_self (by rw [jm_fs_len]; exact hkN), jm_fs_at hkN, if_neg (by omega)]
          simp only [hzz, hkz, jm_uc_self, jm_u1, if_true]
          rfl
        · rw [List.getElem?_set_ne (Ne.symm hjk)]
          by_cases hjN : j < jm_N cl.toNat
          · rw [jm_fs_at hjN, jm_fs_at hjN]
            simp only [hzz, jm_uc_self, jm_u1]
            rw [if_neg (show ¬ (j : Int) = k by omega)]
          · rw [List.getElem?_eq_none (by rw [jm_fs_len]; omega), List.getElem?_eq_none (by rw [jm_fs_len]; omega)]
    · exact hs.elim
  · rename_i v z r cl k t
    split at hs
    · rename_i q hq
      obtain ⟨⟨hz0, hk0⟩, ⟨hv0, hvt, hkl⟩, hs⟩ := hs
      obtain ⟨vv, hst⟩ := List.forall_mem_cons.mp hst
      obtain ⟨-, hst⟩ := List.forall_mem_cons.mp hst
      have hzz : ((z.toNat : Nat) : Int) = z := Int.toNat_of_nonneg hz0
      have ht0 : t = (jm_fty cl.toNat k.toNat : Int) := by
        simp only [Bool.and_eq_true, decide_eq_true_eq] at hc2
        exact hc2.1.2
      have hzl : z.toNat < h.1.length := (List.getElem?_eq_some_iff.mp hq).1
      rw [List.map_cons, List.map_cons, jm_rv_own (z := z) hz0]
      have htot : ∀ (l : List jm_S) (i : Nat) (q q' : jm_S), l[i]? = some q → q'.2.1 = q.2.1 → jm_tot (l.set i q') = jm_tot l := by
        intro l
        induction l with
        | nil => intro i q q' h1; simp at h1
        | cons a l ih =>
          intro i q q' h1 h2
          cases i with
          | zero => simp at h1; subst h1; simp [jm_tot, h2]
          | succ i => simp only [List.getElem?_cons_succ] at h1; simp [jm_tot, ih i q q' h1 h2]
      refine common z r cl k t q (.inr (.inr v)) (h.1.set z.toNat (q.1, q.2.1, q.2.2.set k.toNat v), h.2) hq hz0 hk0 rfl hst ?_ ?_ hS.2.1 (by simp) (htot _ _ _ _ hq rfl) hs
      · intro ty hty
        rw [jm_rv_own hv0]
        rcases hty with ⟨a1, rfl⟩ | ⟨a1, rfl⟩ | ⟨a1, a2⟩
        · omega
        · omega
        · cases ty <;> first | exact ⟨rfl, rfl⟩ | cases a2
      · intro hkk hkN
        refine jm_ws_set (h := h) (h' := (h.1.set z.toNat (q.1, q.2.1, q.2.2.set k.toNat v), h.2)) (by simp) (s' := (q.1, q.2.1, q.2.2.set k.toNat v)) (by simp [hzl]) ?_ (fun j hj => ⟨by simp [Ne.symm hj], rfl⟩)
        rw [jm_ent_o (q := (q.1, q.2.1, q.2.2.set k.toNat v)) hk0]
        congr 2
        apply List.ext_getElem?
        intro j
        by_cases hjk : j = k.toNat
        · subst hjk
          rw [List.getElem?_set_self (by rw [jm_fs_len]; exact hkN), jm_fs_at hkN, if_pos (by omega)]
          simp [hkl, jm_rv]
        · rw [List.getElem?_set_ne (Ne.symm hjk)]
          by_cases hjN : j < jm_N cl.toNat
          · rw [jm_fs_at hjN, jm_fs_at hjN]
            simp [List.getElem?_set_ne (Ne.symm hjk)]
          · rw [List.getElem?_eq_none (by rw [jm_fs_len]; omega), List.getElem?_eq_none (by rw [jm_fs_len]; omega)]
    · exact hs.elim
  · exact hs.elim
end JMH
end
section
section JMA
variable {p : Program} {l : Launch} {e : Env} {R : Room} {s : State} {m : MethodId} {args : Array Value} {below : List Frame} {meth : Method} {c : Code} {D : va_G} {aC : Nat → ClassId} {ba : Nat} {ex : Nat → Nat}
variable {X : jm_X} {n d : Nat} {B : Nat × Nat} {n0 t0 : Nat} {P : List jm_E} {Qz : State → Prop} {C : jm_C} {Q : jm_Q}
theorem jm_new_at {h : jm_H} {q : Nat} {en : va_E} {H1 : Heap} (hD : va_D (fun q => ba ≤ q) (jm_ws aC ba ex h ++ [(q, en)])) (hP : va_P D vwCl (jm_ws aC ba ex h ++ [(q, en)]) H1) (hz : H1.size ≤ ba + h.1.length + 1) : q = ba + h.1.length := by
  have hlast : (jm_ws aC ba ex h ++ [(q, en)])[h.1.length]? = some (q, en) := by rw [List.getElem?_append_right (by rw [jm_ws_len]; exact Nat.le_refl _), jm_ws_len, Nat.sub_self]; rfl
  have h1 := (hP _ _ hlast).lt
  have h2 : ba ≤ q := hD.2 _ _ hlast
  dsimp only at h1
  by_cases hlt : q < ba + h.1.length
  · exfalso
    have hi : q - ba < h.1.length := by omega
    have hold : (jm_ws aC ba ex h ++ [(q, en)])[q - ba]? = some (ba + (q - ba), jm_ent aC ba ex (q - ba) h.1[q - ba] h.2) := by rw [List.getElem?_append_left (by rw [jm_ws_len]; exact hi)]; exact jm_ws_at (List.getElem?_eq_getElem hi)
    have := hD.1 _ _ _ _ hold hlast (by dsimp only; omega)
    omega
  · omega
theorem jm_tot_app (a : List jm_S) (b : jm_S) : jm_tot (a ++ [b]) = jm_tot a + b.2.1 := by
  induction a with
  | nil => simp [jm_tot]
  | cons x a ih => simp only [List.cons_append, jm_tot, ih]; omega
theorem jm_uc_r {h : jm_H} (hr : ∀ i j, jm_r (h.2 i j)) {z v : Int} (hv : jm_r v) : ∀ i j, jm_r (jm_uc h.2 z (fun _ => v) i j) := by
  intro i j
  unfold jm_uc
  split
  · exact hv
  · exact hr i j
theorem jm_ref_of (z : Int) : jm_rv ba ex (.inr (.inr z)) = va_rf (jm_ro ba ex z) := rfl
theorem jm_len_ref (k : Nat) : jm_rv ba ex (.inr (.inr (k : Int))) = .ref (ba + k) := by rw [jm_rv_own (by omega)]; simp

set_option maxHeartbeats 1000000 in
theorem jm_t_getstatic {x : Nat} (hC : jm_Cx p R s m meth c D aC ba ex X n d B n0 t0) {i : Nat} {pc len : Nat} {res : List Int} {L : jm_L} {st : List jm_V} {h : jm_H} (he : P[i]? = some (pc, .getstatic x, len, res)) (hdc : decode (jm_co n) pc = .ok (.getstatic x, len)) (hck : jm_chk n P i (pc, .getstatic x, len, res) = true)
    (hs : jm_sem X C B Q (jm_It p l e R s m args below meth c D aC ba ex P n B n0 t0 Qz) (pc, .getstatic x, len, res) i L st h) : jm_It p l e R s m args below meth c D aC ba ex P n B n0 t0 Qz i L st h := by
  intro e' he' H locs cells slots ls hS hL hst
  cases he.symm.trans he'
  obtain ⟨hx, hb, hml, hown, hE, hXt, hsz, hin, hfr, hlo, hBc, hBs⟩ := hC
  simp only [jm_chk, Bool.and_eq_true] at hck
  simp only [jm_sem] at hs
  obtain ⟨hc1, hc2⟩ := hck
  obtain ⟨hl1, e1, g1, g2⟩ := jm_c_spec hc1
  dsimp only at hl1 g2
  subst hl1
  split at hs
  · rename_i k
    simp only [Bool.and_eq_true, decide_eq_true_eq] at hc2
    obtain ⟨hk3, hany⟩ := hc2
    obtain ⟨w, hw, hw2⟩ := jm_any hany
    simp only [Bool.and_eq_true, beq_iff_eq] at hw2
    obtain ⟨w1, w2, w3⟩ := hw2
    have hwd := jm_word hE (jm_hw_in (List.all_eq_true.mp jm_sl_ok w hw) _ List.mem_cons_self) rfl args
    unfold jm_slw at hwd
    rw [w1, w2, w3] at hwd
    have hlt : ∀ w ∈ jm_sl, w.2.2.1 < jm_sf.length := by decide
    have hk5 := hlt w hw
    rw [w3] at hk5
    have hsf : jm_sf[(-3 - k).toNat]? = some (jm_sf.getD (-3 - k).toNat ("", "", "")) := by rw [List.getD_eq_getElem?_getD, List.getElem?_eq_getElem hk5]; rfl
    have hZ := hXt.2 _ _ hsf
    have kk := hs e1 g1 H locs cells slots ls hS hL (List.forall_mem_cons.mpr ⟨trivial, hst⟩)
    rw [g2, List.map_cons, jm_rv_ext (by omega), show (-2 - k).toNat = (-3 - k).toNat + 1 by omega] at kk
    exact va_gets hx hb hZ hS.2.2.1 hown hwd (fun _ q => q) hdc kk
  · exact hs.elim

set_option maxHeartbeats 1000000 in
theorem jm_t_iaload (hC : jm_Cx p R s m meth c D aC ba ex X n d B n0 t0) {i : Nat} {pc len : Nat} {res : List Int} {L : jm_L} {st : List jm_V} {h : jm_H} (he : P[i]? = some (pc, .iaload, len, res)) (hdc : decode (jm_co n) pc = .ok (.iaload, len)) (hck : jm_chk n P i (pc, .iaload, len, res) = true)
    (hs : jm_sem X C B Q (jm_It p l e R s m args below meth c D aC ba ex P n B n0 t0 Qz) (pc, .iaload, len, res) i L st h) : jm_It p l e R s m args below meth c D aC ba ex P n B n0 t0 Qz i L st h := by
  intro e' he' H locs cells slots ls hS hL hst
  cases he.symm.trans he'
  obtain ⟨hx, hb, hml, hown, hE, hXt, hsz, hin, hfr, hlo, hBc, hBs⟩ := hC
  simp only [jm_chk] at hck
  simp only [jm_sem] at hs
  obtain ⟨hl1, e1, g1, g2⟩ := jm_c_spec hck
  dsimp only at hl1 g2
  subst hl1
  split at hs
  · rename_i j z r
    obtain ⟨vj, hst⟩ := List.forall_mem_cons.mp hst
    obtain ⟨-, hst⟩ := List.forall_mem_cons.mp hst
    have vj : jm_r j := vj
    split at hs
    · rename_i hz0
      split at hs
      · rename_i q hq
        obtain ⟨hk0, ⟨hj0, hj1⟩, hs⟩ := hs
        have hent := jm_ws_at (aC := aC) (ba := ba) (ex := ex) hq
        rw [jm_ent_i (by omega), hk0] at hent
        have hzz : ((z.toNat : Nat) : Int) = z := Int.toNat_of_nonneg hz0
        have kk := hs e1 g1 H locs cells slots ls hS hL (List.forall_mem_cons.mpr ⟨hS.2.1 z j, hst⟩)
        rw [g2] at kk
        rw [List.map_cons, List.map_cons, jm_rv_own hz0]
        refine va_iald hx hb hE.2.2.2 hS.1 z.toNat 0 hent rfl (jm_vin vj hj0 hj1) hdc ?_
        dsimp only
        rw [jm_nn vj, Int.toNat_of_nonneg hj0, hzz]
        exact kk
      · exact hs.elim
    · rename_i hz0
      obtain ⟨⟨hz1, hz2⟩, ⟨hj0, hj1⟩, hs⟩ := hs
      obtain ⟨hT, hN, hr⟩ := hXt.1 (-2 - z).toNat (by omega)
      have kk := hs e1 g1 H locs cells slots ls hS hL (List.forall_mem_cons.mpr ⟨hr j, hst⟩)
      rw [g2] at kk
      rw [List.map_cons, List.map_cons, jm_rv_ext hz1]
      refine va_ti hx hb hT hS.2.2.1 (jm_vin vj hj0 hj1) rfl hdc ?_
      rw [jm_nn vj, Int.toNat_of_nonneg hj0]
      exact kk
  · exact hs.elim

set_option maxHeartbeats 1000000 in
theorem jm_t_baload (hC : jm_Cx p R s m meth c D aC ba ex X n d B n0 t0) {i : Nat} {pc len : Nat} {res : List Int} {L : jm_L} {st : List jm_V} {h : jm_H} (he : P[i]? = some (pc, .baload, len, res)) (hdc : decode (jm_co n) pc = .ok (.baload, len)) (hck : jm_chk n P i (pc, .baload, len, res) = true)
    (hs : jm_sem X C B Q (jm_It p l e R s m args below meth c D aC ba ex P n B n0 t0 Qz) (pc, .baload, len, res) i L st h) : jm_It p l e R s m args below meth c D aC ba ex P n B n0 t0 Qz i L st h := by
  intro e' he' H locs cells slots ls hS hL hst
  cases he.symm.trans he'
  obtain ⟨hx, hb, hml, hown, hE, hXt, hsz, hin, hfr, hlo, hBc, hBs⟩ := hC
  simp only [jm_chk] at hck
  simp only [jm_sem] at hs
  obtain ⟨hl1, e1, g1, g2⟩ := jm_c_spec hck
  dsimp only at hl1 g2
  subst hl1
  split at hs
  · rename_i j z r
    obtain ⟨vj, hst⟩ := List.forall_mem_cons.mp hst
    obtain ⟨-, hst⟩ := List.forall_mem_cons.mp hst
    have vj : jm_r j := vj
    split at hs
    · rename_i q hq
      obtain ⟨⟨hz0, hk0⟩, ⟨hj0, hj1⟩, hs⟩ := hs
      have hent := jm_ws_at (aC := aC) (ba := ba) (ex := ex) hq
      rw [jm_ent_i (by omega), hk0] at hent
      have hzz : ((z.toNat : Nat) : Int) = z := Int.toNat_of_nonneg hz0
      have kk := hs e1 g1 H locs cells slots ls hS hL (List.forall_mem_cons.mpr ⟨hS.2.1 z j, hst⟩)
      rw [g2] at kk
      rw [List.map_cons, List.map_cons, jm_rv_own hz0]
      refine va_zald hx hb hE.2.2.2 hS.1 z.toNat 1 hent rfl (jm_vin vj hj0 hj1) hdc ?_
      dsimp only
      rw [jm_nn vj, Int.toNat_of_nonneg hj0, hzz]
      exact kk
    · exact hs.elim
  · exact hs.elim

set_option maxHeartbeats 1000000 in
theorem jm_t_aaload (hC : jm_Cx p R s m meth c D aC ba ex X n d B n0 t0) {i : Nat} {pc len : Nat} {res : List Int} {L : jm_L} {st : List jm_V} {h : jm_H} (he : P[i]? = some (pc, .aaload, len, res)) (hdc : decode (jm_co n) pc = .ok (.aaload, len)) (hck : jm_chk n P i (pc, .aaload, len, res) = true)
    (hs : jm_sem X C B Q (jm_It p l e R s m args below meth c D aC ba ex P n B n0 t0 Qz) (pc, .aaload, len, res) i L st h) : jm_It p l e R s m args below meth c D aC ba ex P n B n0 t0 Qz i L st h := by
  intro e' he' H locs cells slots ls hS hL hst
  cases he.symm.trans he'
  obtain ⟨hx, hb, hml, hown, hE, hXt, hsz, hin, hfr, hlo, hBc, hBs⟩ := hC
  simp only [jm_chk] at hck
  simp only [jm_sem] at hs
  obtain ⟨hl1, e1, g1, g2⟩ := jm_c_spec hck
  dsimp only at hl1 g2
  subst hl1
  split at hs
  · rename_i j z r
    obtain ⟨vj, hst⟩ := List.forall_mem_cons.mp hst
    obtain ⟨-, hst⟩ := List.forall_mem_cons.mp hst
    have vj : jm_r j := vj
    split at hs
    · rename_i q hq
      obtain ⟨⟨hz0, hk2, hk5⟩, ⟨hj0, hj1⟩, hs⟩ := hs
      have hent := jm_ws_at (aC := aC) (ba := ba) (ex := ex) hq
      rw [jm_ent_q hk2 (by omega)] at hent
      have hzz : ((z.toNat : Nat) : Int) = z := Int.toNat_of_nonneg hz0
      have kk := hs e1 g1 H locs cells slots ls hS hL (List.forall_mem_cons.mpr ⟨trivial, hst⟩)
      rw [g2, List.map_cons, jm_ref_of] at kk
      rw [List.map_cons, List.map_cons, jm_rv_own hz0]
      have hty : ∃ Cn, (jm_tys aC)[q.1]? = some (aC q.1, .object Cn) := by
        obtain ⟨q1, q2⟩ := q
        dsimp only at hk2 hk5 ⊢
        rcases (show q1 = 2 ∨ q1 = 3 ∨ q1 = 4 by omega) with rfl | rfl | rfl
        · exact ⟨_, rfl⟩
        · exact ⟨_, rfl⟩
        · exact ⟨_, rfl⟩
      obtain ⟨Cn, hty⟩ := hty
      refine va_aldq hx hb hE.2.2.2 hS.1 z.toNat q.1 hent hty (jm_vin vj hj0 hj1) hdc ?_
      dsimp only
      rw [jm_nn vj, Int.toNat_of_nonneg hj0, hzz]
      exact kk
    · exact hs.elim
  · exact hs.elim

set_option maxHeartbeats 1000000 in
theorem jm_t_iastore (hC : jm_Cx p R s m meth c D aC ba ex X n d B n0 t0) {i : Nat} {pc len : Nat} {res : List Int} {L : jm_L} {st : List jm_V} {h : jm_H} (he : P[i]? = some (pc, .iastore, len, res)) (hdc : decode (jm_co n) pc = .ok (.iastore, len)) (hck : jm_chk n P i (pc, .iastore, len, res) = true)
    (hs : jm_sem X C B Q (jm_It p l e R s m args below meth c D aC ba ex P n B n0 t0 Qz) (pc, .iastore, len, res) i L st h) : jm_It p l e R s m args below meth c D aC ba ex P n B n0 t0 Qz i L st h := by
  intro e' he' H locs cells slots ls hS hL hst
  cases he.symm.trans he'
  obtain ⟨hx, hb, hml, hown, hE, hXt, hsz, hin, hfr, hlo, hBc, hBs⟩ := hC
  simp only [jm_chk] at hck
  simp only [jm_sem] at hs
  obtain ⟨hl1, e1, g1, g2⟩ := jm_c_spec hck
  dsimp only at hl1 g2
  subst hl1
  split at hs
  · rename_i v j z r
    obtain ⟨vv, hst⟩ := List.forall_mem_cons.mp hst
    obtain ⟨vj, hst⟩ := List.forall_mem_cons.mp hst
    obtain ⟨-, hst⟩ := List.forall_mem_cons.mp hst
    have vj : jm_r j := vj
    split at hs
    · rename_i q hq
      obtain ⟨⟨hz0, hk0⟩, ⟨hj0, hj1⟩, hs⟩ := hs
      have hent := jm_ws_at (aC := aC) (ba := ba) (ex := ex) hq
      rw [jm_ent_i (by omega), hk0] at hent
      have hzz : ((z.toNat : Nat) : Int) = z := Int.toNat_of_nonneg hz0
      rw [List.map_cons, List.map_cons, List.map_cons, jm_rv_own hz0]
      refine va_iast hx hb hE.2.2.2 hS.1 (jm_ws_D aC ba ex h) hS.2.2.1 z.toNat 0 hent rfl (jm_vin vj hj0 hj1) hdc (fun H1 locs1 a1 _ a3 => ?_)
      have hset : (jm_ws aC ba ex h).set z.toNat (ba + z.toNat, .inl (aC 0, q.2.1, .inl (upd (fun j => Int32.ofInt (h.2 z.toNat j)) (Int32.ofInt j).toNatClampNeg (Int32.ofInt v)))) = jm_ws aC ba ex (h.1, jm_uc h.2 z (jm_u1 (h.2 z) j v)) := by
        refine jm_ws_set rfl hq ?_ (fun b hb => ⟨rfl, jm_uc_ne (by omega)⟩)
        rw [jm_ent_i (by omega), hk0, jm_nn vj]
        congr 4
        funext b
        simp only [hzz, jm_uc_self, jm_u1, upd]
        by_cases hbj : b = j.toNat
        · rw [if_pos hbj, if_pos (show (b : Int) = j by omega)]
          try rfl
        · rw [if_neg hbj, if_neg (show ¬ (b : Int) = j by omega)]
      rw [hset] at a1
      have kk := hs e1 g1 H1 locs1 cells slots ls ⟨a1, jm_up_r hS.2.1 vv, a3, hS.2.2.2⟩ hL hst
      rw [g2] at kk
      exact kk
    · exact hs.elim
  · exact hs.elim

set_option maxHeartbeats 1000000 in
theorem jm_t_bastore (hC : jm_Cx p R s m meth c D aC ba ex X n d B n0 t0) {i : Nat} {pc len : Nat} {res : List Int} {L : jm_L} {st : List jm_V} {h : jm_H} (he : P[i]? = some (pc, .bastore, len, res)) (hdc : decode (jm_co n) pc = .ok (.bastore, len)) (hck : jm_chk n P i (pc, .bastore, len, res) = true)
    (hs : jm_sem X C B Q (jm_It p l e R s m args below meth c D aC ba ex P n B n0 t0 Qz) (pc, .bastore, len, res) i L st h) : jm_It p l e R s m args below meth c D aC ba ex P n B n0 t0 Qz i L st h := by
  intro e' he' H locs cells slots ls hS hL hst
  cases he.symm.trans he'
  obtain ⟨hx, hb, hml, hown, hE, hXt, hsz, hin, hfr, hlo, hBc, hBs⟩ := hC
  simp only [jm_chk] at hck
  simp only [jm_sem] at hs
  obtain ⟨hl1, e1, g1, g2⟩ := jm_c_spec hck
  dsimp only at hl1 g2
  subst hl1
  split at hs
  · rename_i v j z r
    obtain ⟨vv, hst⟩ := List.forall_mem_cons.mp hst
    obtain ⟨vj, hst⟩ := List.forall_mem_cons.mp hst
    obtain ⟨-, hst⟩ := List.forall_mem_cons.mp hst
    have vj : jm_r j := vj
    split at hs
    · rename_i q hq
      obtain ⟨⟨hz0, hk0⟩, ⟨hj0, hj1⟩, hvb, hs⟩ := hs
      have hent := jm_ws_at (aC := aC) (ba := ba) (ex := ex) hq
      rw [jm_ent_i (by omega), hk0] at hent
      have hzz : ((z.toNat : Nat) : Int) = z := Int.toNat_of_nonneg hz0
      rw [List.map_cons, List.map_cons, List.map_cons, jm_rv_own hz0]
      refine va_zast hx hb hE.2.2.2 hS.1 (jm_ws_D aC ba ex h) hS.2.2.1 z.toNat 1 hent rfl (jm_vin vj hj0 hj1) hdc (fun H1 locs1 a1 _ a3 => ?_)
      have hset : (jm_ws aC ba ex h).set z.toNat (ba + z.toNat, .inl (aC 1, q.2.1, .inl (upd (fun j => Int32.ofInt (h.2 z.toNat j)) (Int32.ofInt j).toNatClampNeg (vp_nar .boolean (Int32.ofInt v))))) = jm_ws aC ba ex (h.1, jm_uc h.2 z (jm_u1 (h.2 z) j v)) := by
        refine jm_ws_set rfl hq ?_ (fun b hb => ⟨rfl, jm_uc_ne (by omega)⟩)
        rw [jm_ent_i (by omega), hk0, jm_nn vj]
        congr 4
        funext b
        simp only [hzz, jm_uc_self, jm_u1, upd]
        by_cases hbj : b = j.toNat
        · rw [if_pos hbj, if_pos (show (b : Int) = j by omega)]
          rcases hvb with rfl | rfl <;> rfl
        · rw [if_neg hbj, if_neg (show ¬ (b : Int) = j by omega)]
      rw [hset] at a1
      have kk := hs e1 g1 H1 locs1 cells slots ls ⟨a1, jm_up_r hS.2.1 vv, a3, hS.2.2.2⟩ hL hst
      rw [g2] at kk
      exact kk
    · exact hs.elim
  · exact hs.elim

set_option maxHeartbeats 1000000 in
theorem jm_t_aastore (hC : jm_Cx p R s m meth c D aC ba ex X n d B n0 t0) {i : Nat} {pc len : Nat} {res : List Int} {L : jm_L} {st : List jm_V} {h : jm_H} (he : P[i]? = some (pc, .aastore, len, res)) (hdc : decode (jm_co n) pc = .ok (.aastore, len)) (hck : jm_chk n P i (pc, .aastore, len, res) = true)
    (hs : jm_sem X C B Q (jm_It p l e R s m args below meth c D aC ba ex P n B n0 t0 Qz) (pc, .aastore, len, res) i L st h) : jm_It p l e R s m args below meth c D aC ba ex P n B n0 t0 Qz i L st h := by
  intro e' he' H locs cells slots ls hS hL hst
  cases he.symm.trans he'
  obtain ⟨hx, hb, hml, hown, hE, hXt, hsz, hin, hfr, hlo, hBc, hBs⟩ := hC
  simp only [jm_chk] at hck
  simp only [jm_sem] at hs
  obtain ⟨hl1, e1, g1, g2⟩ := jm_c_spec hck
  dsimp only at hl1 g2
  subst hl1
  split at hs
  · rename_i v j z r
    obtain ⟨vv, hst⟩ := List.forall_mem_cons.mp hst
    obtain ⟨vj, hst⟩ := List.forall_mem_cons.mp hst
    obtain ⟨-, hst⟩ := List.forall_mem_cons.mp hst
    have vj : jm_r j := vj
    split at hs
    · rename_i q w hq hw
      obtain ⟨⟨hz0, ⟨hv0, hv1⟩, hkd⟩, ⟨hj0, hj1⟩, hs⟩ := hs
      have hent := jm_ws_at (aC := aC) (ba := ba) (ex := ex) hq
      rw [jm_ent_q (by omega) (by omega)] at hent
      have henv := jm_ws_at (aC := aC) (ba := ba) (ex := ex) hw
      have hzz : ((z.toNat : Nat) : Int) = z := Int.toNat_of_nonneg hz0
      have hvl : v.toNat < h.1.length := (List.getElem?_eq_some_iff.mp hw).1
      rw [List.map_cons, List.map_cons, List.map_cons, jm_rv_own (z := z) hz0, jm_rv_own (z := v) hv0]
      have fin : ∀ (H1 : Heap) (locs1 : List Loc), jm_r v → va_P D vwCl ((jm_ws aC ba ex h).set z.toNat (ba + z.toNat, .inl (aC q.1, q.2.1, .inr (.inr (.inr (.inr (va_up (fun j => jm_ro ba ex (h.2 z.toNat j)) (Int32.ofInt j).toNatClampNeg (some (ba + v.toNat))))))))) H1 → va_S (fun q => ba ≤ q) s.heap H1 locs1 → W p l e R s m args below meth c H1 locs1 cells slots Qz (F0 m (pc + 1) ls (r.map (jm_rv ba ex))) := by
        intro H1 locs1 hrv a1 a3
        have hset : (jm_ws aC ba ex h).set z.toNat (ba + z.toNat, .inl (aC q.1, q.2.1, .inr (.inr (.inr (.inr (va_up (fun j => jm_ro ba ex (h.2 z.toNat j)) (Int32.ofInt j).toNatClampNeg (some (ba + v.toNat)))))))) = jm_ws aC ba ex (h.1, jm_uc h.2 z (jm_u1 (h.2 z) j v)) := by
          refine jm_ws_set rfl hq ?_ (fun b hb => ⟨rfl, jm_uc_ne (by omega)⟩)
          rw [jm_ent_q (by omega) (by omega), jm_nn vj]
          congr 7
          funext b
          simp only [hzz, jm_uc_self, jm_u1, va_up]
          by_cases hbj : b = j.toNat
          · rw [if_pos hbj, if_pos (show (b : Int) = j by omega)]
            simp [jm_ro, hv0]
          · rw [if_neg hbj, if_neg (show ¬ (b : Int) = j by omega)]
        rw [hset] at a1
        have kk := hs e1 g1 H1 locs1 cells slots ls ⟨a1, jm_up_r hS.2.1 hrv, a3, hS.2.2.2⟩ hL hst
        rw [g2] at kk
        exact kk
      have hrv : jm_r v := ⟨by omega, by omega⟩
      rcases hkd with ⟨k1, k2⟩ | ⟨k1, k2⟩ | ⟨k1, k2⟩
      · rw [jm_ent_o (cl := 5) (by omega)] at henv
        exact va_astq hx hb hE.2.2.2 hS.1 (jm_ws_D aC ba ex h) hS.2.2.1 z.toNat 2 v.toNat 5 hent (by rw [k1]; rfl) henv rfl (jm_vin vj hj0 hj1) hdc (fun H1 locs1 a1 _ a3 => fin H1 locs1 hrv a1 a3)
      · rw [jm_ent_o (cl := 1) (by omega)] at henv
        exact va_astq hx hb hE.2.2.2 hS.1 (jm_ws_D aC ba ex h) hS.2.2.1 z.toNat 3 v.toNat 1 hent (by rw [k1]; rfl) henv rfl (jm_vin vj hj0 hj1) hdc (fun H1 locs1 a1 _ a3 => fin H1 locs1 hrv a1 a3)
      · rw [jm_ent_o (cl := 4) (by omega)] at henv
        exact va_astq hx hb hE.2.2.2 hS.1 (jm_ws_D aC ba ex h) hS.2.2.1 z.toNat 4 v.toNat 4 hent (by rw [k1]; rfl) henv rfl (jm_vin vj hj0 hj1) hdc (fun H1 locs1 a1 _ a3 => fin H1 locs1 hrv a1 a3)
    · exact hs.elim
  · exact hs.elim

set_option maxHeartbeats 1000000 in
theorem jm_t_arraylength (hC : jm_Cx p R s m meth c D aC ba ex X n d B n0 t0) {i : Nat} {pc len : Nat} {res : List Int} {L : jm_L} {st : List jm_V} {h : jm_H} (he : P[i]? = some (pc, .arraylength, len, res)) (hdc : decode (jm_co n) pc = .ok (.arraylength, len)) (hck : jm_chk n P i (pc, .arraylength, len, res) = true)
    (hs : jm_sem X C B Q (jm_It p l e R s m args below meth c D aC ba ex P n B n0 t0 Qz) (pc, .arraylength, len, res) i L st h) : jm_It p l e R s m args below meth c D aC ba ex P n B n0 t0 Qz i L st h := by
  intro e' he' H locs cells slots ls hS hL hst
  cases he.symm.trans he'
  obtain ⟨hx, hb, hml, hown, hE, hXt, hsz, hin, hfr, hlo, hBc, hBs⟩ := hC
  simp only [jm_chk] at hck
  simp only [jm_sem] at hs
  obtain ⟨hl1, e1, g1, g2⟩ := jm_c_spec hck
  dsimp only at hl1 g2
  subst hl1
  split at hs
  · rename_i z r
    obtain ⟨-, hst⟩ := List.forall_mem_cons.mp hst
    obtain ⟨⟨hz1, hz2⟩, hs⟩ := hs
    obtain ⟨hT, hN, hr⟩ := hXt.1 (-2 - z).toNat (by omega)
    have kk := hs e1 g1 H locs cells slots ls hS hL (List.forall_mem_cons.mpr ⟨⟨by omega, by omega⟩, hst⟩)
    rw [g2] at kk
    rw [List.map_cons, jm_rv_ext hz1]
    exact va_tlen hx hb hT hS.2.2.1 (by rw [← Int32.ofInt_eq_ofNat]) hdc kk
  · exact hs.elim

end JMA
end
section
section JMN
variable {p : Program} {l : Launch} {e : Env} {R : Room} {s : State} {m : MethodId} {args : Array Value} {below : List Frame} {meth : Method} {c : Code} {D : va_G} {aC : Nat → ClassId} {ba : Nat} {ex : Nat → Nat}
variable {X : jm_X} {n d : Nat} {B : Nat × Nat} {n0 t0 : Nat} {P : List jm_E} {Qz : State → Prop} {C : jm_C} {Q : jm_Q}
theorem jm_m1 : jm_r (-1) := ⟨by decide, by decide⟩
theorem jm_w_ac : Cond.arrayClass .int ∈ lw_tbl := List.mem_of_getElem? (i := 108) (by decide +kernel)
theorem jm_w_az : Cond.arrayClass .boolean ∈ lw_tbl := List.mem_of_getElem? (i := 256) (by decide +kernel)
theorem jm_w_oi : Cond.instanceMethod objectInit ∈ lw_tbl := List.mem_of_getElem? (i := 90) (by decide +kernel)
theorem jm_w_oc : Cond.code objectInit ⟨#[0xb1]⟩ 1 none ∈ lw_tbl := List.mem_of_getElem? (i := 91) (by decide +kernel)
theorem jm_w_ys : Cond.static arraycopyName ∈ lw_tbl := List.mem_of_getElem? (i := 407) (by decide +kernel)
theorem jm_w_yn : Cond.native arraycopyName ∈ lw_tbl := List.mem_of_getElem? (i := 408) (by decide +kernel)
theorem jm_w_yi : Cond.initialized "java/lang/System" ∈ lw_tbl := List.mem_of_getElem? (i := 81) (by decide +kernel)
theorem jm_w_xs : Cond.static Lib.Math.min.name ∈ lw_tbl := List.mem_of_getElem? (i := 528) (by decide +kernel)
theorem jm_w_xc : Cond.code Lib.Math.min.name Lib.Math.min.code 2 (some .int) ∈ lw_tbl := List.mem_of_getElem? (i := 529) (by decide +kernel)
theorem jm_w_xi : Cond.initialized "java/lang/Math" ∈ lw_tbl := List.mem_of_getElem? (i := 82) (by decide +kernel)

set_option maxHeartbeats 1000000 in
theorem jm_t_newarray {ty : ArrayType} (hC : jm_Cx p R s m meth c D aC ba ex X n d B n0 t0) {i : Nat} {pc len : Nat} {res : List Int} {L : jm_L} {st : List jm_V} {h : jm_H} (he : P[i]? = some (pc, .newarray ty, len, res)) (hdc : decode (jm_co n) pc = .ok (.newarray ty, len)) (hck : jm_chk n P i (pc, .newarray ty, len, res) = true)
    (hs : jm_sem X C B Q (jm_It p l e R s m args below meth c D aC ba ex P n B n0 t0 Qz) (pc, .newarray ty, len, res) i L st h) : jm_It p l e R s m args below meth c D aC ba ex P n B n0 t0 Qz i L st h := by
  intro e' he' H locs cells slots ls hS hL hst
  cases he.symm.trans he'
  obtain ⟨hx, hb, hml, hown, hE, hXt, hsz, hin, hfr, hlo, hBc, hBs⟩ := hC
  simp only [jm_chk] at hck
  simp only [jm_sem] at hs
  obtain ⟨hl1, e1, g1, g2⟩ := jm_c_spec hck
  dsimp only at hl1 g2
  subst hl1
  split at hs
  · rename_i nn r k
    obtain ⟨hk, ⟨hn0, hn1⟩, ⟨hb1, hb2⟩, hs⟩ := hs
    obtain ⟨vn, hst⟩ := List.forall_mem_cons.mp hst
    have vn : jm_r nn := vn
    have h4 := hS.2.2.2.1
    have h5 := hS.2.2.2.2.1
    rcases hk with ⟨rfl, rfl⟩ | ⟨rfl, rfl⟩
    · refine va_newa (atype := .int) (a0 := (nn.toNat, .inl (fun _ => Int32.ofInt 0))) hx hb (jm_word hE jm_w_ac rfl args) (ty := .int) rfl hE.2.2.2 hS.1 (jm_ws_D aC ba ex h) hS.2.2.1 (fun q hq => by show ba ≤ q; omega) (fun cA => rfl) (jm_n0 vn hn0) (jm_nn vn) (by show nn.toNat * 4 ≤ 536870912; omega) (by omega) (by omega) hdc (fun q cA H1 hK1 hP1 hD1 hS1 => ?_)
      refine jm_Wsz (fun hz => ?_)
      have hq := jm_new_at hD1 hP1 (by omega)
      have hcA : cA = aC 0 := Option.some.inj ((hK1.2 5 _ rfl).2.symm.trans (hE.2.2.2.2 0 _ rfl).2)
      subst hq hcA
      have hent : (.inl (aC 0, (nn.toNat, .inl (fun _ => Int32.ofInt 0))) : va_E) = jm_ent aC ba ex h.1.length (0, nn.toNat, []) (jm_uc h.2 h.1.length (fun _ => 0)) := by simp [jm_ent, jm_uc]
      rw [hent, jm_ws_new] at hP1
      have kk := hs e1 g1 H1 locs (cells + 1) (slots + nn.toNat) ls ⟨hP1, jm_uc_r hS.2.1 jm_r0, hS1, by simp; omega, by simp [jm_tot_app]; omega, by simp; omega, by simp [jm_tot_app]; omega⟩ hL (List.forall_mem_cons.mpr ⟨trivial, hst⟩)
      rw [g2, List.map_cons, jm_len_ref] at kk
      exact kk
    · refine va_newa (atype := .boolean) (a0 := (nn.toNat, .inl (fun _ => Int32.ofInt 0))) hx hb (jm_word hE jm_w_az rfl args) (ty := .boolean) rfl hE.2.2.2 hS.1 (jm_ws_D aC ba ex h) hS.2.2.1 (fun q hq => by show ba ≤ q; omega) (fun cA => rfl) (jm_n0 vn hn0) (jm_nn vn) (by show nn.toNat * 1 ≤ 536870912; omega) (by omega) (by omega) hdc (fun q cA H1 hK1 hP1 hD1 hS1 => ?_)
      refine jm_Wsz (fun hz => ?_)
      have hq := jm_new_at hD1 hP1 (by omega)
      have hcA : cA = aC 1 := Option.some.inj ((hK1.2 5 _ rfl).2.symm.trans (hE.2.2.2.2 1 _ rfl).2)
      subst hq hcA
      have hent : (.inl (aC 1, (nn.toNat, .inl (fun _ => Int32.ofInt 0))) : va_E) = jm_ent aC ba ex h.1.length (1, nn.toNat, []) (jm_uc h.2 h.1.length (fun _ => 0)) := by simp [jm_ent, jm_uc]
      rw [hent, jm_ws_new] at hP1
      have kk := hs e1 g1 H1 locs (cells + 1) (slots + nn.toNat) ls ⟨hP1, jm_uc_r hS.2.1 jm_r0, hS1, by simp; omega, by simp [jm_tot_app]; omega, by simp; omega, by simp [jm_tot_app]; omega⟩ hL (List.forall_mem_cons.mpr ⟨trivial, hst⟩)
      rw [g2, List.map_cons, jm_len_ref] at kk
      exact kk
  · exact hs.elim

set_option maxHeartbeats 1000000 in
theorem jm_t_anewarray {x : Nat} (hC : jm_Cx p R s m meth c D aC ba ex X n d B n0 t0) {i : Nat} {pc len : Nat} {res : List Int} {L : jm_L} {st : List jm_V} {h : jm_H} (he : P[i]? = some (pc, .anewarray x, len, res)) (hdc : decode (jm_co n) pc = .ok (.anewarray x, len)) (hck : jm_chk n P i (pc, .anewarray x, len, res) = true)
    (hs : jm_sem X C B Q (jm_It p l e R s m args below meth c D aC ba ex P n B n0 t0 Qz) (pc, .anewarray x, len, res) i L st h) : jm_It p l e R s m args below meth c D aC ba ex P n B n0 t0 Qz i L st h := by
  intro e' he' H locs cells slots ls hS hL hst
  cases he.symm.trans he'
  obtain ⟨hx, hb, hml, hown, hE, hXt, hsz, hin, hfr, hlo, hBc, hBs⟩ := hC
  simp only [jm_chk, Bool.and_eq_true] at hck
  simp only [jm_sem] at hs
  obtain ⟨hc1, hc2⟩ := hck
  obtain ⟨hl1, e1, g1, g2⟩ := jm_c_spec hc1
  dsimp only at hl1 g2
  subst hl1
  split at hs
  · rename_i nn r k
    obtain ⟨hk, ⟨hn0, hn1⟩, ⟨hb1, hb2⟩, hs⟩ := hs
    obtain ⟨vn, hst⟩ := List.forall_mem_cons.mp hst
    have vn : jm_r nn := vn
    have h4 := hS.2.2.2.1
    have h5 := hS.2.2.2.2.1
    dsimp only at hc2
    obtain ⟨w, hw, hw2⟩ := jm_any hc2
    simp only [Bool.and_eq_true, Bool.or_eq_true, beq_iff_eq] at hw2
    obtain ⟨w1, w2, w3⟩ := hw2
    have hwd := jm_word hE (jm_hw_in (List.all_eq_true.mp jm_cl_ok w hw) _ List.mem_cons_self) rfl args
    unfold jm_clw at hwd
    rw [w1, w2] at hwd
    rcases w3 with ⟨rfl, w3⟩ | ⟨rfl, w3⟩ | ⟨rfl, w3⟩ <;> rw [w3] at hwd
    · refine va_newq (C := "MatNations$Mat") hx hb hown hwd hE.2.2.1.1 hE.2.2.2 hS.1 (jm_ws_D aC ba ex h) hS.2.2.1 (fun q hq => by show ba ≤ q; omega) (jm_n0 vn hn0) (jm_nn vn) (by omega) (by omega) (by omega) hdc (fun q cA H1 hK1 hP1 hD1 hS1 => ?_)
      refine jm_Wsz (fun hz => ?_)
      have hq := jm_new_at hD1 hP1 (by omega)
      have hcA : cA = aC 2 := by
        obtain ⟨_, _, _, _, _, z1⟩ := (hK1.2 5 _ rfl).2
        obtain ⟨_, _, _, _, _, z2⟩ := (hE.2.2.2.2 2 _ rfl).2
        exact Option.some.inj (z1.symm.trans z2)
      subst hq hcA
      have hent : (.inl (aC 2, nn.toNat, .inr (.inr (.inr (.inr (fun _ => none))))) : va_E) = jm_ent aC ba ex h.1.length (2, nn.toNat, []) (jm_uc h.2 h.1.length (fun _ => -1)) := by simp [jm_ent, jm_uc, jm_ro]
      rw [hent, jm_ws_new] at hP1
      have kk := hs e1 g1 H1 locs (cells + 1) (slots + nn.toNat) ls ⟨hP1, jm_uc_r hS.2.1 jm_m1, hS1, by simp; omega, by simp [jm_tot_app]; omega, by simp; omega, by simp [jm_tot_app]; omega⟩ hL (List.forall_mem_cons.mpr ⟨trivial, hst⟩)
      rw [g2, List.map_cons, jm_len_ref] at kk
      exact kk
    · refine va_newq (C := "MatNations$Comer") hx hb hown hwd hE.2.2.1.2.1 hE.2.2.2 hS.1 (jm_ws_D aC ba ex h) hS.2.2.1 (fun q hq => by show ba ≤ q; omega) (jm_n0 vn hn0) (jm_nn vn) (by omega) (by omega) (by omega) hdc (fun q cA H1 hK1 hP1 hD1 hS1 => ?_)
      refine jm_Wsz (fun hz => ?_)
      have hq := jm_new_at hD1 hP1 (by omega)
      have hcA : cA = aC 3 := by
        obtain ⟨_, _, _, _, _, z1⟩ := (hK1.2 5 _ rfl).2
        obtain ⟨_, _, _, _, _, z2⟩ := (hE.2.2.2.2 3 _ rfl).2
        exact Option.some.inj (z1.symm.trans z2)
      subst hq hcA
      have hent : (.inl (aC 3, nn.toNat, .inr (.inr (.inr (.inr (fun _ => none))))) : va_E) = jm_ent aC ba ex h.1.length (3, nn.toNat, []) (jm_uc h.2 h.1.length (fun _ => -1)) := by simp [jm_ent, jm_uc, jm_ro]
      rw [hent, jm_ws_new] at hP1
      have kk := hs e1 g1 H1 locs (cells + 1) (slots + nn.toNat) ls ⟨hP1, jm_uc_r hS.2.1 jm_m1, hS1, by simp; omega, by simp [jm_tot_app]; omega, by simp; omega, by simp [jm_tot_app]; omega⟩ hL (List.forall_mem_cons.mpr ⟨trivial, hst⟩)
      rw [g2, List.map_cons, jm_len_ref] at kk
      exact kk
    · refine va_newq (C := "MatNations$House") hx hb hown hwd hE.2.2.1.2.2 hE.2.2.2 hS.1 (jm_ws_D aC ba ex h) hS.2.2.1 (fun q hq => by show ba ≤ q; omega) (jm_n0 vn hn0) (jm_nn vn) (by omega) (by omega) (by omega) hdc (fun q cA H1 hK1 hP1 hD1 hS1 => ?_)
      refine jm_Wsz (fun hz => ?_)
      have hq := jm_new_at hD1 hP1 (by omega)
      have hcA : cA = aC 4 := by
        obtain ⟨_, _, _, _, _, z1⟩ := (hK1.2 5 _ rfl).2
        obtain ⟨_, _, _, _, _, z2⟩ := (hE.2.2.2.2 4 _ rfl).2
        exact Option.some.inj (z1.symm.trans z2)
      subst hq hcA
      have hent : (.inl (aC 4, nn.toNat, .inr (.inr (.inr (.inr (fun _ => none))))) : va_E) = jm_ent aC ba ex h.1.length (4, nn.toNat, []) (jm_uc h.2 h.1.length (fun _ => -1)) := by simp [jm_ent, jm_uc, jm_ro]
      rw [hent, jm_ws_new] at hP1
      have kk := hs e1 g1 H1 locs (cells + 1) (slots + nn.toNat) ls ⟨hP1, jm_uc_r hS.2.1 jm_m1, hS1, by simp; omega, by simp [jm_tot_app]; omega, by simp; omega, by simp [jm_tot_app]; omega⟩ hL (List.forall_mem_cons.mpr ⟨trivial, hst⟩)
      rw [g2, List.map_cons, jm_len_ref] at kk
      exact kk
  · exact hs.elim

set_option maxHeartbeats 1000000 in
theorem jm_t_new {x : Nat} (hC : jm_Cx p R s m meth c D aC ba ex X n d B n0 t0) {i : Nat} {pc len : Nat} {res : List Int} {L : jm_L} {st : List jm_V} {h : jm_H} (he : P[i]? = some (pc, .new x, len, res)) (hdc : decode (jm_co n) pc = .ok (.new x, len)) (hck : jm_chk n P i (pc, .new x, len, res) = true)
    (hs : jm_sem X C B Q (jm_It p l e R s m args below meth c D aC ba ex P n B n0 t0 Qz) (pc, .new x, len, res) i L st h) : jm_It p l e R s m args below meth c D aC ba ex P n B n0 t0 Qz i L st h := by
  intro e' he' H locs cells slots ls hS hL hst
  cases he.symm.trans he'
  obtain ⟨hx, hb, hml, hown, hE, hXt, hsz, hin, hfr, hlo, hBc, hBs⟩ := hC
  simp only [jm_chk, Bool.and_eq_true] at hck
  simp only [jm_sem] at hs
  obtain ⟨hc1, hc2⟩ := hck
  obtain ⟨hl1, e1, g1, g2⟩ := jm_c_spec hc1
  dsimp only at hl1 g2
  subst hl1
  split at hs
  · rename_i cl w
    obtain ⟨⟨hb1, hb2⟩, hs⟩ := hs
    have h4 := hS.2.2.2.1
    have h5 := hS.2.2.2.2.1
    simp only [Bool.and_eq_true, decide_eq_true_eq] at hc2
    obtain ⟨⟨hw0, hcl⟩, hany⟩ := hc2
    obtain ⟨q, hq, hq2⟩ := jm_any hany
    simp only [Bool.and_eq_true, beq_iff_eq] at hq2
    obtain ⟨w1, w2, w3⟩ := hq2
    have hwd := jm_word hE (jm_hw_in (List.all_eq_true.mp jm_cl_ok q hq) _ List.mem_cons_self) rfl args
    unfold jm_clw at hwd
    rw [w1, w2, w3] at hwd
    have hcl2 : cl.toNat < vwCl.length := hcl
    have hvc := List.getElem?_eq_getElem hcl2
    generalize vwCl[cl.toNat] = vc at hvc
    obtain ⟨hT, hN⟩ := jm_CN_T _ _ hvc
    obtain ⟨ty, hp, hnm, hu, hi, htk, hcn⟩ := jm_ck _ _ hvc
    rw [← hcn] at hwd
    have hwN : w.toNat = vc.2.2 := by rw [← hN]; omega
    refine va_new (ci := cl.toNat) (fs := jm_fs ba ex cl.toNat h.1.length (List.replicate w.toNat (-1)) (jm_uc h.2 h.1.length (fun _ => 0))) (C := vc.1) (T := vc.2.1) (N := vc.2.2) hx hb (jm_Tsb hE args) hu ty hp hown hwd (jm_Tsb hE args _ (hi _ (by simp))) (jm_Tsb hE args _ (hi _ (by simp))) hE.2.2.2 hS.1 (jm_ws_D aC ba ex h) hS.2.2.1 (fun q hq => by show ba ≤ q; omega) hvc ?_ (by omega) (by omega) hdc (fun q H1 hP1 hD1 hS1 => ?_)
    · intro j hj
      have hjN : j < jm_N cl.toNat := by rw [hN]; exact hj
      unfold vp_V
      rw [List.getD_eq_getElem?_getD, jm_fs_at hjN, Option.getD_some]
      have hty := (htk j hj).1
      rcases hty with ⟨a1, a2⟩ | ⟨a1, a2⟩ | ⟨a1, a2⟩
      · rw [a2, if_neg (by omega), jm_uc_self]; rfl
      · rw [a2, if_neg (by omega), jm_uc_self]; rfl
      · rw [if_pos a1]
        have hg : (List.replicate w.toNat (-1 : Int)).getD j (-1) = -1 := by rw [List.getD_eq_getElem?_getD, List.getElem?_replicate]; split <;> rfl
        rw [hg]
        cases hk : ty j <;> rw [hk] at a2 <;> first | rfl | cases a2
    · refine jm_Wsz (fun hz => ?_)
      have hq := jm_new_at hD1 hP1 (by omega)
      subst hq
      have hent : (.inr (cl.toNat, jm_fs ba ex cl.toNat h.1.length (List.replicate w.toNat (-1)) (jm_uc h.2 h.1.length (fun _ => 0))) : va_E) = jm_ent aC ba ex h.1.length (10 + cl.toNat, w.toNat, List.replicate w.toNat (-1)) (jm_uc h.2 h.1.length (fun _ => 0)) := (jm_ent_o (q := (10 + cl.toNat, w.toNat, List.replicate w.toNat (-1))) rfl).symm
      rw [hent, jm_ws_new] at hP1
      rw [← hwN]
      have kk := hs e1 g1 H1 locs (cells + 1) (slots + w.toNat) ls ⟨hP1, jm_uc_r hS.2.1 jm_r0, hS1, by simp; omega, by simp [jm_tot_app]; omega, by simp; omega, by simp [jm_tot_app]; omega⟩ hL (List.forall_mem_cons.mpr ⟨trivial, hst⟩)
      rw [g2, List.map_cons, jm_len_ref] at kk
      exact kk
  · exact hs.elim

end JMN
end
section
section JMI
variable {p : Program} {l : Launch} {e : Env} {R : Room} {s : State} {m : MethodId} {args : Array Value} {below : List Frame} {meth : Method} {c : Code} {D : va_G} {aC : Nat → ClassId} {ba : Nat} {ex : Nat → Nat}
variable {X : jm_X} {n d : Nat} {B : Nat × Nat} {n0 t0 : Nat} {P : List jm_E} {Qz : State → Prop} {C : jm_C} {Q : jm_Q}
/-- what a method makes -/
def jm_al (f : Nat) (h h' : jm_H) : Prop := h'.1.length = h.1.length + jm_mc f ∧ jm_tot h'.1 = jm_tot h.1 + jm_ms f
def jm_Pc (D : va_G) (aC : Nat → ClassId) (ba : Nat) (ex : Nat → Nat) (X : jm_X) (vs : List jm_V) (h : jm_H) : Array Value → State → Prop := fun a U =>
  a = (vs.map (jm_rv ba ex)).toArray ∧ jm_Env D aC U ∧ va_P D vwCl (jm_ws aC ba ex h) U.heap ∧ (∀ i j, jm_r (h.2 i j)) ∧ U.heap.size = ba + h.1.length ∧ jm_Ext ba ex X U U.heap ∧ ∀ v ∈ vs, jm_ok v
def jm_Qc (D : va_G) (aC : Nat → ClassId) (ba : Nat) (ex : Nat → Nat) (f : Nat) (h : jm_H) (Qk : jm_Q) : Array Value → State → Outcome → State → Prop := fun _ st o t =>
  (∃ (v : List jm_V) (h' : jm_H), Qk v h' ∧ jm_al f h h' ∧ o = .returned (v.map (jm_rv ba ex)).head? ∧ v.length ≤ 1 ∧ va_P D vwCl (jm_ws aC ba ex h') t.heap ∧ (∀ i j, jm_r (h'.2 i j)) ∧ ∀ x ∈ v, jm_ok x) ∧ va_F (fun q => ba ≤ q) st t
def jm_rm (d f : Nat) : Room := { frames := d, cells := jm_mc f, slots := jm_ms f, locals := 64 * d }
def jm_Mt (l : Launch) (D : va_G) (aC : Nat → ClassId) (ba : Nat) (ex : Nat → Nat) (X : jm_X) (d f : Nat) (vs : List jm_V) (h : jm_H) (Qk : jm_Q) : Prop :=
  Met l (jm_y f) [.code (jm_y f) (jm_co f) (jm_ma f) (jm_re f)] (jm_rm d f) (jm_Pc D aC ba ex X vs h) (jm_Qc D aC ba ex f h Qk) (jm_mc f) (jm_ms f) (fun q => ba ≤ q)
theorem jm_Pc_blind {vs : List jm_V} {h : jm_H} : FrameBlind (jm_Pc D aC ba ex X vs h) := by
  intro a U g mk hP
  obtain ⟨h1, h2, h3, h4, h5, h6, h7⟩ := hP
  exact ⟨h1, h2.warm (U := U.calling g mk a) (State.WarmedH.refl U), h3, h4, h5, h6.move (U := U.calling g mk a) (Vm.Alike.refl U.vm) (fun _ _ _ => rfl), h7⟩
/-- behind a call -/
theorem jm_after {f : Nat} {h : jm_H} {Qk : jm_Q} {H : Heap} {locs : List Loc} {cells slots pc : Nat} {ls : Array Slot} {st0 : List Value} {r : List jm_V} {a : Array Value} {L : jm_L} {i : Nat} {e1 : jm_E}
    (hr : va_Run p l e R s m args below meth c H locs cells slots (jm_mc f) (jm_ms f) (F0 m pc ls st0) (r.map (jm_rv ba ex)) (jm_Qc D aC ba ex f h Qk a) (fun q => ba ≤ q)) (hS : jm_Sim D aC ba ex s B n0 t0 h H locs cells slots) (hL : jm_LR ba ex ls (jm_ma n) L) (hst : ∀ v ∈ r, jm_ok v)
    (hB : h.1.length + jm_mc f ≤ B.1 ∧ jm_tot h.1 + jm_ms f ≤ B.2) (g1 : P[i]? = some e1) (g2 : e1.1 = pc + 3)
    (kk : ∀ (v : List jm_V) (h' : jm_H), Qk v h' → jm_It p l e R s m args below meth c D aC ba ex P n B n0 t0 Qz i L (v ++ r) h') : W p l e R s m args below meth c H locs cells slots Qz (F0 m pc ls st0) := by
  intro T hT Y
  obtain ⟨v, st₀, t, T', L', h0, Y', hL', y1, y2, ⟨⟨vv, h', hq, hal, hv, hvl, hP, hrg, hok⟩, hz, hk⟩, stp⟩ := hr T hT Y
  cases hv
  rw [h0] at hz hk
  obtain ⟨s1, s2, s3, s4, s5, s6, s7⟩ := hS
  have hst2 : ∀ x ∈ vv ++ r, jm_ok x := fun x hx => (List.mem_append.mp hx).elim (hok x) (hst x)
  have hmem : ∀ q ∈ locs ++ L', (fun q => ba ≤ q) q.base := fun q hq => (List.mem_append.mp hq).elim (s3.2.2 q) (hL' q)
  obtain ⟨t2, a1, b1⟩ := kk vv h' hq e1 g1 T'.heap (locs ++ L') (cells + jm_mc f) (slots + jm_ms f) ls ⟨by rw [y1]; exact hP, hrg, ⟨Nat.le_trans s3.1 (by rw [y1]; exact hz), fun q h1 h2 => by rw [y1, hk q (Nat.lt_of_lt_of_le h1 s3.1) h2]; exact s3.2.1 q h1 h2, hmem⟩, by have := hal.1; omega, by have := hal.2; omega, by have := hal.1; omega, by have := hal.2; omega⟩ hL hst2 T' rfl Y'
  rw [g2] at a1
  have hlist : (vv.map (jm_rv ba ex)).head?.toList ++ r.map (jm_rv ba ex) = (vv ++ r).map (jm_rv ba ex) := by
    rw [List.map_append]
    match vv, hvl with
    | [], _ => rfl
    | [x], _ => rfl
  refine ⟨t2, stp t2 ?_, b1⟩
  show Steps p.tables e below (T'.setTop (F0 m (pc + 3) ls ((vv.map (jm_rv ba ex)).head?.toList ++ r.map (jm_rv ba ex)))) t2
  rw [hlist]
  exact a1
theorem jm_mok_spec {f : Nat} (hf : f < 224) : (∀ w ∈ jm_miw (jm_in f), w ∈ lw_tbl) ∧ (jm_miw (jm_in f)).all goodWord = true ∧ plainName (jm_y f).cls = true ∧ ((jm_y f).cls ≠ "java/lang/invoke/MethodHandle" ∧ (jm_y f).cls ≠ "java/lang/invoke/VarHandle") ∧ (parseMethodDescriptor (jm_y f).desc).map (fun d => d.parameters.length) = some (jm_pa f) ∧ jm_ma f ≤ 45 ∧ jm_CN (jm_ow f) = (jm_y f).cls ∧ jm_ki f ≤ 2 ∧ (jm_ki f = 2 → (jm_y f).name = "<init>" ∧ jm_re f = none) ∧ (jm_ki f = 2 ∨ (jm_mc f = 0 ∧ jm_ms f = 0)) := by
  have hm := jm_mq_mem f hf
  have h2 := List.all_eq_true.mp jm_mq_ok _ hm
  simp only [jm_mok, Bool.and_eq_true, decide_eq_true_eq] at h2
  obtain ⟨a1, a2, a3, a4, a5, a6, a7, a8, a9, a10⟩ := h2
  exact ⟨jm_mq_w _ hm, a1, a2, ⟨a3, a4⟩, a5, a6, a7, a8, a9, a10⟩
/-- a method's word, at any state that the tables hold in -/
theorem jm_mword {f : Nat} (hf : f < 224) {U : State} (hE : jm_Env D aC U) {w : Cond} (hw : w ∈ jm_miw (jm_in f)) (a : Array Value) : w.before a U = true :=
  jm_word hE ((jm_mok_spec hf).1 w hw) (List.all_eq_true.mp (jm_mok_spec hf).2.1 w hw) a
theorem jm_miw_code (f : Nat) : Cond.code (jm_y f) (jm_co f) (jm_ma f) (jm_re f) ∈ jm_miw (jm_in f) := by
  unfold jm_miw
  exact List.mem_append_left _ List.mem_cons_self
theorem jm_miw_init (f : Nat) : Cond.initialized (jm_y f).cls ∈ jm_miw (jm_in f) := by
  unfold jm_miw
  exact List.mem_append_left _ (List.mem_cons_of_mem _ List.mem_cons_self)
theorem jm_miw_static {f : Nat} (h : jm_ki f = 1) : Cond.static (jm_y f) ∈ jm_miw (jm_in f) := by
  unfold jm_miw
  rw [if_pos (show (jm_in f).2.2.2.2.2.2.1 = 1 from h)]
  exact List.mem_append_right _ List.mem_cons_self
theorem jm_miw_inst {f : Nat} (h : jm_ki f ≠ 1) : Cond.instanceMethod (jm_y f) ∈ jm_miw (jm_in f) := by
  unfold jm_miw
  rw [if_neg (show ¬ (jm_in f).2.2.2.2.2.2.1 = 1 from h)]
  refine List.mem_append_right _ ?_
  split <;> exact List.mem_cons_self
theorem jm_miw_sel {f : Nat} (h : jm_ki f = 0) : Cond.selects (jm_y f).cls (jm_y f) (jm_y f) ∈ jm_miw (jm_in f) := by
  unfold jm_miw
  rw [if_neg (show ¬ (jm_in f).2.2.2.2.2.2.1 = 1 by intro q; rw [show (jm_in f).2.2.2.2.2.2.1 = 0 from h] at q; cases q), if_pos (show (jm_in f).2.2.2.2.2.2.1 = 0 from h)]
  exact List.mem_append_right _ (List.mem_cons_of_mem _ List.mem_cons_self)
theorem jm_callB {f x a : Nat} (hf : f < 224) (hE : jm_Env D aC s) (hl : (Cond.methodLink (jm_CN (jm_ow n)) x (jm_y f)).before args s = true) (hfr : d + 1 ≤ R.frames) (hlo : 64 * (d + 1) ≤ R.locals) (hpa : jm_pa f = a) :
    CallB R s args (jm_CN (jm_ow n)) x (jm_y f) (jm_co f) (jm_ma f) (jm_re f) [.code (jm_y f) (jm_co f) (jm_ma f) (jm_re f)] (jm_rm d f) (jm_mc f) (jm_ms f) a := by
  obtain ⟨m1, m2, m3, m4, m5, m6, m7, m8, m9⟩ := jm_mok_spec hf
  refine ⟨rfl, rfl, hfr, ?_, fun w hw a' U hW => ?_, List.mem_cons_self, jm_mword hf hE (jm_miw_code f) args, jm_mword hf hE (jm_miw_init f) args, m4, fun sig h => ?_, hl⟩
  · show 8 + (jm_ma f + 11) + 64 * d ≤ R.locals
    omega
  · rw [List.mem_singleton.mp hw]
    exact jm_mword hf (hE.warm hW) (jm_miw_code f) a'
  · rw [h] at m5
    exact hpa.symm.trans (Option.some.inj m5).symm
theorem jm_pre {vs : List jm_V} {h : jm_H} {H : Heap} {locs : List Loc} {cells slots : Nat} (hE : jm_Env D aC s) (hXt : jm_Ext ba ex X s s.heap) (hsz : s.heap.size = ba + n0) (hS : jm_Sim D aC ba ex s B n0 t0 h H locs cells slots) (hz : H.size ≤ s.heap.size + cells) (hok : ∀ v ∈ vs, jm_ok v) :
    ∀ U : State, U.heap = H → s.WarmedH U.vm → jm_Pc D aC ba ex X vs h (vs.map (jm_rv ba ex)).toArray U := by
  intro U hU hW
  obtain ⟨s1, s2, s3, s4, s5, s6, s7⟩ := hS
  refine ⟨rfl, hE.warm hW, by rw [hU]; exact s1, s2, ?_, ?_, hok⟩
  · have := jm_ge s1 (by have := s3.1; omega)
    rw [hU]
    omega
  · rw [hU]
    exact hXt.move hW.alike (fun a h1 h2 => s3.2.1 a h1 h2)

set_option maxHeartbeats 1000000 in
theorem jm_t_invokevirtual (hIH : ∀ (f : Nat) (vs : List jm_V) (h : jm_H) (Qk : jm_Q), f < 224 → C f vs h Qk → jm_Mt l D aC ba ex X d f vs h Qk) {x : Nat} (hC : jm_Cx p R s m meth c D aC ba ex X n d B n0 t0) {i : Nat} {pc len : Nat} {res : List Int} {L : jm_L} {st : List jm_V} {h : jm_H} (he : P[i]? = some (pc, .invokevirtual x, len, res)) (hdc : decode (jm_co n) pc = .ok (.invokevirtual x, len)) (hck : jm_chk n P i (pc, .invokevirtual x, len, res) = true)
    (hs : jm_sem X C B Q (jm_It p l e R s m args below meth c D aC ba ex P n B n0 t0 Qz) (pc, .invokevirtual x, len, res) i L st h) : jm_It p l e R s m args below meth c D aC ba ex P n B n0 t0 Qz i L st h := by
  intro e' he' H locs cells slots ls hS hL hst
  cases he.symm.trans he'
  obtain ⟨hx, hb, hml, hown, hE, hXt, hsz, hin, hfr, hlo, hBc, hBs⟩ := hC
  simp only [jm_chk, Bool.and_eq_true] at hck
  simp only [jm_sem] at hs
  obtain ⟨hc1, hc2⟩ := hck
  obtain ⟨hl1, e1, g1, g2⟩ := jm_c_spec hc1
  dsimp only at hl1 g2
  subst hl1
  split at hs
  · rename_i f a cl
    split at hs
    · rename_i z r hdr
      split at hs
      · rename_i q hq
        obtain ⟨⟨hz0, hr4, hkd⟩, hs⟩ := hs
        simp only [Bool.and_eq_true, decide_eq_true_eq] at hc2
        obtain ⟨⟨hf, hki, hpa, hcl, hcl2⟩, hany⟩ := hc2
        obtain ⟨w, hw, hw2⟩ := jm_any hany
        simp only [Bool.and_eq_true, beq_iff_eq] at hw2
        obtain ⟨w1, w2, w3⟩ := hw2
        have hwd := jm_word hE (jm_hw_in (List.all_eq_true.mp jm_ml_ok w hw) _ List.mem_cons_self) rfl args
        unfold jm_mlw at hwd
        rw [w1, w2, w3] at hwd
        obtain ⟨m1, m2, m3, m4, m5, m6, m7, m8, m9, m10⟩ := jm_mok_spec hf
        have hmc : jm_mc f.toNat = 0 ∧ jm_ms f.toNat = 0 := by rcases m10 with h9 | h9; omega; exact h9
        have hsplit : st = st.take a.toNat ++ (.inr (.inr z) :: r) := by rw [← hdr, List.take_append_drop]
        have hst1 : ∀ v ∈ st.take a.toNat, jm_ok v := fun v hv => hst v (by rw [hsplit]; exact List.mem_append_left _ hv)
        have hst2 : ∀ v ∈ r, jm_ok v := fun v hv => hst v (by rw [hsplit]; exact List.mem_append_right _ (List.mem_cons_of_mem _ hv))
        have hlen : (st.take a.toNat).length = a.toNat := by
          have h8 : st.length = (st.take a.toNat).length + (r.length + 1) := by
            have := congrArg List.length hsplit
            simpa using this
          rw [List.length_take] at h8 ⊢
          omega
        have hM := hIH f.toNat _ h _ hf hs
        have hent := jm_ws_at (aC := aC) (ba := ba) (ex := ex) hq
        rw [jm_ent_o hkd] at hent
        have hcl3 : cl.toNat < vwCl.length := hcl2
        have hvc := List.getElem?_eq_getElem hcl3
        generalize vwCl[cl.toNat] = vc at hvc
        obtain ⟨ty, -, -, -, -, -, hcn⟩ := jm_ck _ _ hvc
        refine jm_Wsz (fun hz => ?_)
        have hrecv := va_recv hE.2.2.2 hS.1 hvc hent
        rw [hcn, hcl, m7] at hrecv
        have hrun := va_runV (n := a.toNat) (nL := jm_ma n) (cc := jm_co n) (own := jm_CN (jm_ow n)) (index := x) (Ts := []) (C := (jm_y f.toNat).cls) (b := ba + z.toNat) (As := (st.take a.toNat).reverse.map (jm_rv ba ex)) (rest := r.map (jm_rv ba ex)) (g := F0 m pc ls (st.map (jm_rv ba ex))) (p := p) (e := e) (below := below) (meth := meth) (locs := locs) (cells := cells) (slots := slots)
          ⟨hx, hb, hml, hown, fun w h => absurd h List.not_mem_nil⟩ hM ⟨jm_callB hf hE hwd hfr hlo hpa, jm_mword hf hE (jm_miw_inst (by omega)) args, jm_mword hf hE (jm_miw_sel hki) args⟩
          ⟨jm_Pc_blind, hrecv, by
            have h7 := jm_pre (vs := .inr (.inr z) :: (st.take a.toNat).reverse) hE hXt hsz hS hz (List.forall_mem_cons.mpr ⟨trivial, fun v hv => hst1 v (List.mem_reverse.mp hv)⟩)
            rw [List.map_cons, jm_rv_own hz0] at h7
            exact h7⟩ rfl (by rw [List.length_map, List.length_reverse, hlen]) (hL.1) (by
            show st.map (jm_rv ba ex) = _
            rw [hsplit, List.map_append, List.map_cons, jm_rv_own hz0, ← List.map_reverse, List.reverse_reverse]
            simp [hlen]) (by
            have := jm_cat4 ba ex r hr4
            show 2 * 0 + _ ≤ 8
            omega) hdc ⟨by have h4 := hS.2.2.2.1; have h5 := hS.2.2.2.2.2.1; omega, by have h4 := hS.2.2.2.2.1; have h5 := hS.2.2.2.2.2.2; omega⟩
        exact jm_after hrun hS hL hst2 ⟨by have h5 := hS.2.2.2.2.2.1; omega, by have h5 := hS.2.2.2.2.2.2; omega⟩ g1 g2 (fun v h' hq => hq)
      · exact hs.elim
    · exact hs.elim
  · exact hs.elim

set_option maxHeartbeats 1000000 in
theorem jm_t_invokestatic (hIH : ∀ (f : Nat) (vs : List jm_V) (h : jm_H) (Qk : jm_Q), f < 224 → C f vs h Qk → jm_Mt l D aC ba ex X d f vs h Qk) {x : Nat} (hC : jm_Cx p R s m meth c D aC ba ex X n d B n0 t0) {i : Nat} {pc len : Nat} {res : List Int} {L : jm_L} {st : List jm_V} {h : jm_H} (he : P[i]? = some (pc, .invokestatic x, len, res)) (hdc : decode (jm_co n) pc = .ok (.invokestatic x, len)) (hck : jm_chk n P i (pc, .invokestatic x, len, res) = true)
    (hs : jm_sem X C B Q (jm_It p l e R s m args below meth c D aC ba ex P n B n0 t0 Qz) (pc, .invokestatic x, len, res) i L st h) : jm_It p l e R s m args below meth c D aC ba ex P n B n0 t0 Qz i L st h := by
  intro e' he' H locs cells slots ls hS hL hst
  cases he.symm.trans he'
  obtain ⟨hx, hb, hml, hown, hE, hXt, hsz, hin, hfr, hlo, hBc, hBs⟩ := hC
  simp only [jm_chk, Bool.and_eq_true] at hck
  simp only [jm_sem] at hs
  obtain ⟨hc1, hc2⟩ := hck
  obtain ⟨hl1, e1, g1, g2⟩ := jm_c_spec hc1
  dsimp only at hl1 g2
  subst hl1
  split at hs
  · rename_i f a
    obtain ⟨⟨hal, hr4⟩, hs⟩ := hs
    simp only [Bool.and_eq_true, decide_eq_true_eq] at hc2
    obtain ⟨⟨hf, hki, hpa⟩, hany⟩ := hc2
    obtain ⟨w, hw, hw2⟩ := jm_any hany
    simp only [Bool.and_eq_true, beq_iff_eq] at hw2
    obtain ⟨w1, w2, w3⟩ := hw2
    have hwd := jm_word hE (jm_hw_in (List.all_eq_true.mp jm_ml_ok w hw) _ List.mem_cons_self) rfl args
    unfold jm_mlw at hwd
    rw [w1, w2, w3] at hwd
    obtain ⟨m1, m2, m3, m4, m5, m6, m7, m8, m9, m10⟩ := jm_mok_spec hf
    have hmc : jm_mc f.toNat = 0 ∧ jm_ms f.toNat = 0 := by rcases m10 with h9 | h9; omega; exact h9
    have hst1 : ∀ v ∈ st.take a.toNat, jm_ok v := fun v hv => hst v (List.mem_of_mem_take hv)
    have hst2 : ∀ v ∈ st.drop a.toNat, jm_ok v := fun v hv => hst v (List.mem_of_mem_drop hv)
    have hlen : (st.take a.toNat).length = a.toNat := by rw [List.length_take]; omega
    have hM := hIH f.toNat _ h _ hf hs
    refine jm_Wsz (fun hz => ?_)
    have hrun := va_runS (n := a.toNat) (nL := jm_ma n) (cc := jm_co n) (own := jm_CN (jm_ow n)) (index := x) (Ts := []) (As := (st.take a.toNat).reverse.map (jm_rv ba ex)) (rest := (st.drop a.toNat).map (jm_rv ba ex)) (g := F0 m pc ls (st.map (jm_rv ba ex))) (p := p) (e := e) (below := below) (meth := meth) (locs := locs) (cells := cells) (slots := slots)
      ⟨hx, hb, hml, hown, fun w h => absurd h List.not_mem_nil⟩ hM ⟨jm_callB hf hE hwd hfr hlo hpa, jm_mword hf hE (jm_miw_static hki) args⟩
      ⟨jm_Pc_blind, jm_pre (vs := (st.take a.toNat).reverse) hE hXt hsz hS hz (fun v hv => hst1 v (List.mem_reverse.mp hv))⟩ rfl (by rw [List.length_map, List.length_reverse, hlen]) (hL.1) (by
        show st.map (jm_rv ba ex) = _
        rw [← List.map_reverse, List.reverse_reverse, ← List.map_append, List.take_append_drop]) (by
        have := jm_cat4 ba ex _ hr4
        show 2 * 0 + _ ≤ 8
        omega) hdc ⟨by have h4 := hS.2.2.2.1; have h5 := hS.2.2.2.2.2.1; omega, by have h4 := hS.2.2.2.2.1; have h5 := hS.2.2.2.2.2.2; omega⟩
    exact jm_after hrun hS hL hst2 ⟨by have h5 := hS.2.2.2.2.2.1; omega, by have h5 := hS.2.2.2.2.2.2; omega⟩ g1 g2 (fun v h' hq => hq)
  · rename_i f
    split at hs
    · rename_i b a r
      obtain ⟨hr4, hs⟩ := hs
      obtain ⟨vb, hst⟩ := List.forall_mem_cons.mp hst
      obtain ⟨va, hst⟩ := List.forall_mem_cons.mp hst
      have va : jm_r a := va
      have vb : jm_r b := vb
      obtain ⟨w, hw, hw2⟩ := jm_any hc2
      simp only [Bool.and_eq_true, beq_iff_eq] at hw2
      have hwd := jm_word hE (jm_hw_in (List.all_eq_true.mp jm_xl_ok w hw) _ List.mem_cons_self) rfl args
      unfold jm_xlw at hwd
      rw [hw2.1, hw2.2] at hwd
      have hmin : jm_r (min a b) := ⟨by omega, by omega⟩
      have kk := hs e1 g1 H locs cells slots ls hS hL (List.forall_mem_cons.mpr ⟨hmin, hst⟩)
      rw [g2] at kk
      have h8 := jm_cat4 ba ex r hr4
      refine va_mmin hx hb (hml.trans hL.1.symm) hown hwd (jm_word hE jm_w_xs rfl args) (jm_word hE jm_w_xi rfl args) (jm_word hE jm_w_xc rfl args) (by omega) (by omega) (by have h4 := hS.2.2.2.1; have h5 := hS.2.2.2.2.2.1; omega) (by have h4 := hS.2.2.2.2.1; have h5 := hS.2.2.2.2.2.2; omega) hdc ?_
      have hE2 : (if Int32.ofInt b < Int32.ofInt a then Int32.ofInt b else Int32.ofInt a) = Int32.ofInt (min a b) := by
        by_cases hlt : b < a
        · rw [if_pos ((jm_lt vb va).mpr hlt), show min a b = b by omega]
        · rw [if_neg (fun q => hlt ((jm_lt vb va).mp q)), show min a b = a by omega]
      rw [hE2]
      exact kk
    · exact hs.elim
  · split at hs
    · rename_i nn dp dd sp qq r
      split at hs
      · rename_i s1 t1 hq1 hd1
        obtain ⟨⟨hq0, hd0, hk1, hk2, hr4⟩, ⟨⟨hsp, hdp, hnn⟩, hb1, hb2⟩, hs⟩ := hs
        obtain ⟨vn, hst⟩ := List.forall_mem_cons.mp hst
        obtain ⟨vdp, hst⟩ := List.forall_mem_cons.mp hst
        obtain ⟨-, hst⟩ := List.forall_mem_cons.mp hst
        obtain ⟨vsp, hst⟩ := List.forall_mem_cons.mp hst
        obtain ⟨-, hst⟩ := List.forall_mem_cons.mp hst
        have vn : jm_r nn := vn
        have vdp : jm_r dp := vdp
        have vsp : jm_r sp := vsp
        obtain ⟨w, hw, hw2⟩ := jm_any hc2
        simp only [Bool.and_eq_true, beq_iff_eq] at hw2
        have hwd := jm_word hE (jm_hw_in (List.all_eq_true.mp jm_yl_ok w hw) _ List.mem_cons_self) rfl args
        unfold jm_ylw at hwd
        rw [hw2.1, hw2.2] at hwd
        have hen1 := jm_ws_at (aC := aC) (ba := ba) (ex := ex) hq1
        rw [jm_ent_i (by omega), hk1] at hen1
        have hen2 := jm_ws_at (aC := aC) (ba := ba) (ex := ex) hd1
        rw [jm_ent_i (by omega), hk2] at hen2
        have hqz : ((qq.toNat : Nat) : Int) = qq := Int.toNat_of_nonneg hq0
        have hdz : ((dd.toNat : Nat) : Int) = dd := Int.toNat_of_nonneg hd0
        have h8 := jm_cat4 ba ex r hr4
        have hnw : nativeFrameWords "java/lang/System" "arraycopy" 5 ≤ 40 := by decide +kernel
        simp only [List.map_cons]
        rw [jm_rv_own (z := dd) hd0, jm_rv_own (z := qq) hq0]
        refine va_copyi hx hb (hml.trans hL.1.symm) hown hwd (jm_word hE jm_w_yn rfl args) (jm_word hE jm_w_ys rfl args) (jm_word hE jm_w_yi rfl args) hE.2.2.2 hS.1 (jm_ws_D aC ba ex h) hS.2.2.1 qq.toNat dd.toNat 0 0 hen1 hen2 rfl rfl rfl (jm_n0 vsp hsp) (jm_n0 vdp hdp) (jm_n0 vn hnn) (by rw [jm_nn vsp, jm_nn vn]; omega) (by rw [jm_nn vdp, jm_nn vn]; omega) (fun _ _ => rfl) (by omega) (by omega) hdc (fun H1 locs1 a1 _ a3 => ?_)
        have hset : (jm_ws aC ba ex h).set dd.toNat (ba + dd.toNat, .inl (aC 0, t1.2.1, .inl (va_cpy (fun j => Int32.ofInt (h.2 qq.toNat j)) (fun j => Int32.ofInt (h.2 dd.toNat j)) (Int32.ofInt sp).toNatClampNeg (Int32.ofInt dp).toNatClampNeg (Int32.ofInt nn).toNatClampNeg))) = jm_ws aC ba ex (h.1, jm_uc h.2 dd (jm_cpy (h.2 qq) (h.2 dd) sp dp nn)) := by
          refine jm_ws_set rfl hd1 ?_ (fun b hb => ⟨rfl, jm_uc_ne (by omega)⟩)
          rw [jm_ent_i (by omega), hk2, jm_nn vsp, jm_nn vdp, jm_nn vn]
          congr 4
          funext b
          simp only [hqz, hdz, jm_uc_self, jm_cpy, va_cpy]
          by_cases hbj : dp.toNat ≤ b ∧ b < dp.toNat + nn.toNat
          · rw [if_pos hbj, if_pos (by omega)]
            rw [show ((sp.toNat + (b - dp.toNat) : Nat) : Int) = sp + ((b : Int) - dp) by omega]
          · rw [if_neg hbj, if_neg (by omega)]
        rw [hset] at a1
        have hrg : ∀ i j, jm_r (jm_uc h.2 dd (jm_cpy (h.2 qq) (h.2 dd) sp dp nn) i j) := by
          intro i j
          unfold jm_uc jm_cpy
          split
          · dsimp only
            split
            · exact hS.2.1 _ _
            · exact hS.2.1 _ _
          · exact hS.2.1 i j
        have kk := hs e1 g1 H1 locs1 cells slots ls ⟨a1, hrg, a3, hS.2.2.2⟩ hL hst
        rw [g2] at kk
        exact kk
      · exact hs.elim
    · exact hs.elim
  · exact hs.elim

set_option maxHeartbeats 1000000 in
theorem jm_t_invokespecial (hIH : ∀ (f : Nat) (vs : List jm_V) (h : jm_H) (Qk : jm_Q), f < 224 → C f vs h Qk → jm_Mt l D aC ba ex X d f vs h Qk) {x : Nat} (hC : jm_Cx p R s m meth c D aC ba ex X n d B n0 t0) {i : Nat} {pc len : Nat} {res : List Int} {L : jm_L} {st : List jm_V} {h : jm_H} (he : P[i]? = some (pc, .invokespecial x, len, res)) (hdc : decode (jm_co n) pc = .ok (.invokespecial x, len)) (hck : jm_chk n P i (pc, .invokespecial x, len, res) = true)
    (hs : jm_sem X C B Q (jm_It p l e R s m args below meth c D aC ba ex P n B n0 t0 Qz) (pc, .invokespecial x, len, res) i L st h) : jm_It p l e R s m args below meth c D aC ba ex P n B n0 t0 Qz i L st h := by
  intro e' he' H locs cells slots ls hS hL hst
  cases he.symm.trans he'
  obtain ⟨hx, hb, hml, hown, hE, hXt, hsz, hin, hfr, hlo, hBc, hBs⟩ := hC
  simp only [jm_chk, Bool.and_eq_true] at hck
  simp only [jm_sem] at hs
  obtain ⟨hc1, hc2⟩ := hck
  obtain ⟨hl1, e1, g1, g2⟩ := jm_c_spec hc1
  dsimp only at hl1 g2
  subst hl1
  split at hs
  · rename_i f mc ms
    split at hs
    · rename_i z r
      obtain ⟨⟨hz0, hr4⟩, ⟨hb1, hb2⟩, hs⟩ := hs
      simp only [Bool.and_eq_true, Bool.or_eq_true, decide_eq_true_eq] at hc2
      obtain ⟨⟨hf, hki, hpa, hmc, hms⟩, hany⟩ := hc2
      obtain ⟨m1, m2, m3, m4, m5, m6, m7, m8, m9, m10⟩ := jm_mok_spec hf
      obtain ⟨-, hst2⟩ := List.forall_mem_cons.mp hst
      have hM := hIH f.toNat _ h _ hf hs
      refine jm_Wsz (fun hz => ?_)
      have h4 := hS.2.2.2.1
      have h5 := hS.2.2.2.2.1
      have hcat : 2 * (F0 m pc ls (((.inr (.inr z) :: r : List jm_V)).map (jm_rv ba ex))).monitorRoom + ((r.map (jm_rv ba ex)).map fun v => v.category).sum ≤ 8 := by
        have := jm_cat4 ba ex r hr4
        show 2 * 0 + _ ≤ 8
        omega
      have hpre : PreS s H (jm_Pc D aC ba ex X [.inr (.inr z)] h) (.ref (ba + z.toNat) :: []) := ⟨jm_Pc_blind, by
        have h7 := jm_pre (vs := [.inr (.inr z)]) hE hXt hsz hS hz (List.forall_mem_cons.mpr ⟨trivial, fun v hv => absurd hv List.not_mem_nil⟩)
        rw [List.map_cons, jm_rv_own hz0] at h7
        exact h7⟩
      have hstk : (F0 m pc ls (((.inr (.inr z) :: r : List jm_V)).map (jm_rv ba ex))).stack = ([] : List Value).reverse ++ .ref (ba + z.toNat) :: r.map (jm_rv ba ex) := by
        show (((.inr (.inr z) :: r : List jm_V)).map (jm_rv ba ex)) = _
        rw [List.map_cons, jm_rv_own hz0]
        rfl
      have hre : jm_re f.toNat = none := (m9 hki).2
      unfold jm_Mt at hM
      rw [hre] at hM
      have hcode := jm_mword hf hE (jm_miw_code f.toNat) args
      rw [hre] at hcode
      rcases hany with hany | hany
      · obtain ⟨w, hw, hw2⟩ := jm_any hany
        simp only [Bool.and_eq_true, beq_iff_eq] at hw2
        obtain ⟨w1, w2, w3⟩ := hw2
        have hwd := jm_word hE (jm_hw_in (List.all_eq_true.mp jm_ml_ok w hw) _ List.mem_cons_self) rfl args
        unfold jm_mlw at hwd
        rw [w1, w2, w3] at hwd
        have hcb := jm_callB hf hE hwd hfr hlo hpa
        rw [hre] at hcb
        have hrun := va_runI (n := 0) (nL := jm_ma n) (cc := jm_co n) (own := jm_CN (jm_ow n)) (index := x) (Ts := []) (b := ba + z.toNat) (As := []) (rest := r.map (jm_rv ba ex)) (g := F0 m pc ls (((.inr (.inr z) :: r : List jm_V)).map (jm_rv ba ex))) (p := p) (e := e) (below := below) (meth := meth) (locs := locs) (cells := cells) (slots := slots)
          ⟨hx, hb, hml, hown, fun w h => absurd h List.not_mem_nil⟩ hM ⟨hcb, (m9 hki).1, jm_mword hf hE (jm_miw_inst (by omega)) args⟩ hpre rfl rfl (hL.1) hstk hcat hdc ⟨by omega, by omega⟩
        exact jm_after hrun hS hL hst2 ⟨by omega, by omega⟩ g1 g2 (fun v h' hq => hq)
      · obtain ⟨w, hw, hw2⟩ := jm_any hany
        simp only [Bool.and_eq_true, beq_iff_eq] at hw2
        obtain ⟨w1, w2, w3⟩ := hw2
        have hwd := hE.2.1 w hw
        unfold jm_nlw at hwd
        rw [w1, w2, w3] at hwd
        have hcn : va_CN R s args (jm_CN (jm_ow n)) x (jm_y f.toNat) "MatNations" (jm_co f.toNat) (jm_ma f.toNat) none [.code (jm_y f.toNat) (jm_co f.toNat) (jm_ma f.toNat) none] (jm_rm d f.toNat) (jm_mc f.toNat) (jm_ms f.toNat) 0 := by
          refine ⟨⟨rfl, rfl, hfr, ?_, fun w hw a' U hW => ?_, List.mem_cons_self⟩, hcode, jm_mword hf hE (jm_miw_init f.toNat) args, m4, fun sig h => ?_, va_Nw.use rfl hwd⟩
          · show 8 + (jm_ma f.toNat + 11) + 64 * d ≤ R.locals
            omega
          · rw [List.mem_singleton.mp hw]
            have := jm_mword hf (hE.warm hW) (jm_miw_code f.toNat) a'
            rw [hre] at this
            exact this
          · rw [h] at m5
            exact hpa.symm.trans (Option.some.inj m5).symm
        have hrun := va_runIN (n := 0) (nL := jm_ma n) (cc := jm_co n) (own := jm_CN (jm_ow n)) (index := x) (Ts := []) (b := ba + z.toNat) (As := []) (rest := r.map (jm_rv ba ex)) (g := F0 m pc ls (((.inr (.inr z) :: r : List jm_V)).map (jm_rv ba ex))) (p := p) (e := e) (below := below) (meth := meth) (locs := locs) (cells := cells) (slots := slots)
          ⟨hx, hb, hml, hown, fun w h => absurd h List.not_mem_nil⟩ hM ⟨hcn, (m9 hki).1, jm_mword hf hE (jm_miw_inst (by omega)) args⟩ hpre rfl rfl (hL.1) hstk hcat hdc ⟨by omega, by omega⟩
        exact jm_after hrun hS hL hst2 ⟨by omega, by omega⟩ g1 g2 (fun v h' hq => hq)
    · exact hs.elim
  · split at hs
    · rename_i z r
      obtain ⟨⟨hz0, hr4⟩, hs⟩ := hs
      obtain ⟨-, hst2⟩ := List.forall_mem_cons.mp hst
      obtain ⟨w, hw, hw2⟩ := jm_any hc2
      simp only [Bool.and_eq_true, beq_iff_eq] at hw2
      have hwd := jm_word hE (jm_hw_in (List.all_eq_true.mp jm_ol_ok w hw) _ List.mem_cons_self) rfl args
      unfold jm_olw at hwd
      rw [hw2.1, hw2.2] at hwd
      have kk := hs e1 g1 H locs cells slots ls hS hL hst2
      rw [g2] at kk
      have h8 := jm_cat4 ba ex r hr4
      rw [List.map_cons, jm_rv_own hz0]
      refine W.objInit hx hb hown hwd (jm_word hE jm_w_oi rfl args) (jm_word hE jm_w_oc rfl args) rfl (by rw [hml]; exact hL.1) rfl hdc (by omega) ?_ kk
      show 2 * 0 + _ + 12 ≤ R.locals
      omega
    · exact hs.elim
  · exact hs.elim

end JMI
end
section
section JMF
variable {p : Program} {l : Launch} {e : Env} {R : Room} {s : State} {m : MethodId} {args : Array Value} {below : List Frame} {meth : Method} {c : Code} {D : va_G} {aC : Nat → ClassId} {ba : Nat} {ex : Nat → Nat}
variable {X : jm_X} {n d : Nat} {B : Nat × Nat} {n0 t0 : Nat} {P : List jm_E} {Qz : State → Prop} {C : jm_C} {Q : jm_Q}
set_option maxHeartbeats 2000000 in
theorem jm_closed (hC : jm_Cx p R s m meth c D aC ba ex X n d B n0 t0) (hD : jm_ckD n P = true) (hP : jm_ckP n P = true)
    (hIH : ∀ (f : Nat) (vs : List jm_V) (h : jm_H) (Qk : jm_Q), f < 224 → C f vs h Qk → jm_Mt l D aC ba ex X d f vs h Qk)
    (hrI : ∀ (z : Int) (h : jm_H) (H : Heap) (locs : List Loc) (cells slots : Nat) (ls : Array Slot) (pc : Nat), decode (jm_co n) pc = .ok (.ireturn, 1) → jm_r z → (jm_re n = some .int ∨ (jm_re n = some .boolean ∧ (z = 0 ∨ z = 1))) → Q [.inl z] h → jm_Sim D aC ba ex s B n0 t0 h H locs cells slots → W p l e R s m args below meth c H locs cells slots Qz (F0 m pc ls [.int (Int32.ofInt z)]))
    (hrV : ∀ (h : jm_H) (H : Heap) (locs : List Loc) (cells slots : Nat) (ls : Array Slot) (pc : Nat), decode (jm_co n) pc = .ok (.return_, 1) → jm_re n = none → Q [] h → jm_Sim D aC ba ex s B n0 t0 h H locs cells slots → W p l e R s m args below meth c H locs cells slots Qz (F0 m pc ls []))
    (i : Nat) (en : jm_E) (L : jm_L) (st : List jm_V) (h : jm_H) (he : P[i]? = some en) (hs : jm_sem X C B Q (jm_It p l e R s m args below meth c D aC ba ex P n B n0 t0 Qz) en i L st h) : jm_It p l e R s m args below meth c D aC ba ex P n B n0 t0 Qz i L st h := by
  have hdc := jm_ckD_spec hD he
  have hck := jm_ckP_spec hP he
  obtain ⟨pc, ins, len, res⟩ := en
  dsimp only at hdc
  cases ins
  case ireturn =>
    intro e' he' H locs cells slots ls hS hL hst
    cases he.symm.trans he'
    simp only [jm_chk, Bool.and_eq_true, beq_iff_eq] at hck
    simp only [jm_sem] at hs
    obtain ⟨hc1, hc2⟩ := hck
    subst hc1
    split at hs
    · rename_i v t
      simp only [decide_eq_true_eq] at hc2
      have hv := hst _ List.mem_cons_self
      refine hrI v h H locs cells slots ls pc hdc hv ?_ hs.2 hS
      rcases hc2 with ⟨rfl, h2⟩ | ⟨rfl, h2⟩
      · exact Or.inl h2
      · rcases hs.1 with h3 | ⟨-, h3⟩
        · cases h3
        · exact Or.inr ⟨h2, h3⟩
    · exact hs.elim
  case return_ =>
    intro e' he' H locs cells slots ls hS hL hst
    cases he.symm.trans he'
    simp only [jm_chk, Bool.and_eq_true, beq_iff_eq, decide_eq_true_eq] at hck
    simp only [jm_sem] at hs
    obtain ⟨hc1, hc2⟩ := hck
    subst hc1
    split at hs
    · exact hrV h H locs cells slots ls pc hdc hc2 hs hS
    · exact hs.elim
  case iconst => exact jm_t_iconst hC he hdc hck hs
  case bipush => exact jm_t_bipush hC he hdc hck hs
  case sipush => exact jm_t_sipush hC he hdc hck hs
  case ldc => exact jm_t_ldc hC he hdc hck hs
  case ldc_w => exact jm_t_ldc_w hC he hdc hck hs
  case ldc2_w => exact jm_t_ldc2_w hC he hdc hck hs
  case lconst => exact jm_t_lconst hC he hdc hck hs
  case iload => exact jm_t_iload hC he hdc hck hs
  case iload_n => exact jm_t_iload_n hC he hdc hck hs
  case lload => exact jm_t_lload hC he hdc hck hs
  case lload_n => exact jm_t_lload_n hC he hdc hck hs
  case aload => exact jm_t_aload hC he hdc hck hs
  case aload_n => exact jm_t_aload_n hC he hdc hck hs
  case istore => exact jm_t_istore hC he hdc hck hs
  case istore_n => exact jm_t_istore_n hC he hdc hck hs
  case lstore => exact jm_t_lstore hC he hdc hck hs
  case lstore_n => exact jm_t_lstore_n hC he hdc hck hs
  case astore => exact jm_t_astore hC he hdc hck hs
  case astore_n => exact jm_t_astore_n hC he hdc hck hs
  case iinc => exact jm_t_iinc hC he hdc hck hs
  case iadd => exact jm_t_iadd hC he hdc hck hs
  case isub => exact jm_t_isub hC he hdc hck hs
  case imul => exact jm_t_imul hC he hdc hck hs
  case idiv => exact jm_t_idiv hC he hdc hck hs
  case irem => exact jm_t_irem hC he hdc hck hs
  case ineg => exact jm_t_ineg hC he hdc hck hs
  case iand => exact jm_t_iand hC he hdc hck hs
  case ior => exact jm_t_ior hC he hdc hck hs
  case ixor => exact jm_t_ixor hC he hdc hck hs
  case ishl => exact jm_t_ishl hC he hdc hck hs
  case ishr => exact jm_t_ishr hC he hdc hck hs
  case iushr => exact jm_t_iushr hC he hdc hck hs
  case i2l => exact jm_t_i2l hC he hdc hck hs
  case l2i => exact jm_t_l2i hC he hdc hck hs
  case i2b => exact jm_t_i2b hC he hdc hck hs
  case i2s => exact jm_t_i2s hC he hdc hck hs
  case ladd => exact jm_t_ladd hC he hdc hck hs
  case lmul => exact jm_t_lmul hC he hdc hck hs
  case lrem => exact jm_t_lrem hC he hdc hck hs
  case lcmp => exact jm_t_lcmp hC he hdc hck hs
  case dup => exact jm_t_dup hC he hdc hck hs
  case dup2 => exact jm_t_dup2 hC he hdc hck hs
  case pop => exact jm_t_pop hC he hdc hck hs
  case ifCond => exact jm_t_ifCond hC he hdc hck hs
  case if_icmp => exact jm_t_if_icmp hC he hdc hck hs
  case goto => exact jm_t_goto hC he hdc hck hs
  case tableswitch => exact jm_t_tableswitch hC he hdc hck hs
  case lookupswitch => exact jm_t_lookupswitch hC he hdc hck hs
  case getfield => exact jm_t_getfield hC he hdc hck hs
  case putfield => exact jm_t_putfield hC he hdc hck hs
  case getstatic => exact jm_t_getstatic hC he hdc hck hs
  case iaload => exact jm_t_iaload hC he hdc hck hs
  case baload => exact jm_t_baload hC he hdc hck hs
  case aaload => exact jm_t_aaload hC he hdc hck hs
  case iastore => exact jm_t_iastore hC he hdc hck hs
  case bastore => exact jm_t_bastore hC he hdc hck hs
  case aastore => exact jm_t_aastore hC he hdc hck hs
  case arraylength => exact jm_t_arraylength hC he hdc hck hs
  case newarray => exact jm_t_newarray hC he hdc hck hs
  case anewarray => exact jm_t_anewarray hC he hdc hck hs
  case new => exact jm_t_new hC he hdc hck hs
  case invokevirtual => exact jm_t_invokevirtual hIH hC he hdc hck hs
  case invokestatic => exact jm_t_invokestatic hIH hC he hdc hck hs
  case invokespecial => exact jm_t_invokespecial hIH hC he hdc hck hs
  all_goals exact absurd hs (by simp only [jm_sem]; exact id)
/-- the call of method f, in the small machine: at most d calls stand open at once -/
def jm_CW (X : jm_X) (PP : Nat → List jm_E) : Nat → jm_C
  | 0, _, _, _, _ => False
  | d + 1, f, vs, h, Q => (jm_loc vs).length ≤ jm_ma f ∧ jm_WP X (jm_CW X PP d) (h.1.length + jm_mc f, jm_tot h.1 + jm_ms f) (PP f) (fun v h' => jm_al f h h' ∧ Q v h') 0 (jm_loc vs ++ List.replicate (jm_ma f - (jm_loc vs).length) none) [] h
theorem jm_CW_mono (X : jm_X) (PP : Nat → List jm_E) : ∀ d, jm_mono (jm_CW X PP d)
  | 0 => fun _ _ _ _ _ _ q => q
  | _ + 1 => fun _ _ _ _ _ hQ q => ⟨q.1, jm_WP_Q (fun v h z => ⟨z.1, hQ v h z.2⟩) q.2⟩
/-- the programs are the methods' own -/
def jm_ckA (PP : Nat → List jm_E) : Prop := ∀ f, f < 224 → (jm_ckD f (PP f) = true ∧ jm_ckP f (PP f) = true ∧ jm_go (PP f) 0 0 = true)
theorem jm_entry {vs : List jm_V} {nL : Nat} (hl : (jm_loc vs).length ≤ nL) (hok : ∀ v ∈ vs, jm_ok v) : jm_LR ba ex ((lg_sl (vs.map (jm_rv ba ex)) ++ List.replicate (nL - (lg_sl (vs.map (jm_rv ba ex))).length) Slot.unset).toArray) nL (jm_loc vs ++ List.replicate (nL - (jm_loc vs).length) none) := by
  have h1 := lv_entry (vs.map (jm_rv ba ex)) (n := nL) (by rw [jm_loc_len]; exact hl)
  refine ⟨h1.1, h1.2.1, fun k v hk => ?_⟩
  by_cases hlt : k < (jm_loc vs).length
  · rw [List.getElem?_append_left hlt] at hk
    obtain ⟨a, b⟩ := jm_loc_entry ba ex vs 0 k v hk
    have h2 := h1.2.2 _ a
    rw [Nat.zero_add] at h2
    exact ⟨h2, hok v b⟩
  · rw [List.getElem?_append_right (by omega), List.getElem?_replicate] at hk
    split at hk <;> cases hk
set_option maxHeartbeats 1000000 in
theorem jm_sound {PP : Nat → List jm_E} (hPP : jm_ckA PP) (l : Launch) (D : va_G) (aC : Nat → ClassId) (ba : Nat) (ex : Nat → Nat) (X : jm_X) : ∀ (d f : Nat) (vs : List jm_V) (h : jm_H) (Q : jm_Q), f < 224 → jm_CW X PP d f vs h Q → jm_Mt l D aC ba ex X d f vs h Q
  | 0, _, _, _, _, _, hw => hw.elim
  | d + 1, f, vs, h, Q, hf, hw => by
    obtain ⟨hloc, hw⟩ := hw
    obtain ⟨m1, m2, m3, m4, m5, m6, m7, m8, m9, m10⟩ := jm_mok_spec hf
    obtain ⟨hckD, hckP, hgo⟩ := hPP f hf
    refine Met.ofW (cc := jm_co f) (maxL := jm_ma f) (ret := jm_re f) m3 rfl ?_
    intro p e s m args below meth c s₁ B hml hv
    obtain ⟨rfl, hE, hP, hrg, hsz, hXt, hok⟩ := hv
    have hlocks := B.notSynchronized
    have hown : s.vm.findClass (jm_CN (jm_ow f)) = some m.cls := by rw [m7]; exact findClass_of_methodNamed B.named
    have hC : jm_Cx p (jm_rm (d + 1) f) s m meth c D aC ba ex X f d (h.1.length + jm_mc f, jm_tot h.1 + jm_ms f) h.1.length (jm_tot h.1) :=
      ⟨B.exec, B.bytes, hml, hown, hE, hXt, hsz, fun hk => (name_of_methodNamed B.named B.method).1.trans (m9 hk).1, Nat.le_refl _, Nat.le_refl _, Nat.le_refl _, Nat.le_refl _⟩
    obtain ⟨e0, g1, g2⟩ := jm_go_spec hgo
    have hr := B.returns
    rw [lg_entry_eq]
    have key := hw (jm_It p l e (jm_rm (d + 1) f) s m (vs.map (jm_rv ba ex)).toArray below meth c D aC ba ex (PP f) f (h.1.length + jm_mc f, jm_tot h.1 + jm_ms f) h.1.length (jm_tot h.1) (MQ below (jm_Qc D aC ba ex f h Q) (vs.map (jm_rv ba ex)).toArray s (jm_mc f) (jm_ms f) (fun q => ba ≤ q)))
      (jm_closed hC hckD hckP (fun f' vs' h' Qk hf' hc => jm_sound hPP l D aC ba ex X d f' vs' h' Qk hf' hc) ?_ ?_)
    · have k2 := key e0 g1 s.heap [] 0 0 _ ⟨hP, hrg, va_S.rf, Nat.zero_add _, Nat.zero_add _, Nat.le_add_right _ _, Nat.le_add_right _ _⟩ (jm_entry hloc hok) (fun v hv => absurd hv List.not_mem_nil)
      rw [g2] at k2
      exact k2
    · intro z h' H locs cells slots ls pc hdc hz hty hq hS
      have hc1 : cells = jm_mc f := by have := hq.1.1; have := hS.2.2.2.1; omega
      have hc2 : slots = jm_ms f := by have := hq.1.2; have := hS.2.2.2.2.1; omega
      subst hc1 hc2
      have hqq : ∀ t : State, t.heap = H → s.WarmedH t.vm → jm_Qc D aC ba ex f h Q (vs.map (jm_rv ba ex)).toArray s (.returned (some (.int (Int32.ofInt z)))) t := fun t ht _ =>
        ⟨⟨[.inl z], h', hq.2, hq.1, rfl, Nat.le_refl _, by rw [ht]; exact hS.1, hS.2.1, fun x hx => by rw [List.mem_singleton.mp hx]; exact hz⟩, hS.2.2.1.F ht⟩
      rcases hty with hty | ⟨hty, h01⟩
      · exact W.iret B.exec B.bytes (hr.trans hty) hqq hS.2.2.1.2.2 hdc
      · exact W.zret B.exec B.bytes (hr.trans hty) (by rcases h01 with rfl | rfl <;> rfl) hqq hS.2.2.1.2.2 hdc
    · intro h' H locs cells slots ls pc hdc hty hq hS
      have hc1 : cells = jm_mc f := by have := hq.1.1; have := hS.2.2.2.1; omega
      have hc2 : slots = jm_ms f := by have := hq.1.2; have := hS.2.2.2.2.1; omega
      subst hc1 hc2
      exact W.vret B.exec B.bytes (hr.trans hty) (fun t ht _ => ⟨⟨[], h', hq.2, hq.1, rfl, Nat.zero_le _, by rw [ht]; exact hS.1, hS.2.1, fun x hx => absurd hx List.not_mem_nil⟩, hS.2.2.1.F ht⟩) hS.2.2.1.2.2 hdc
end JMF
end
section
/-! the methods as programs of the small machine, each held against its bytes -/
def jm_p_X0_init : List jm_E := [(0, .aload_n 0, 1, []), (1, .invokespecial 3, 3, []), (4, .aload_n 0, 1, []), (5, .bipush 16, 2, []), (7, .newarray .int, 2, [0]), (9, .putfield 11, 3, [0, 0, 2]), (12, .return_, 1, [])]
def jm_p_X0_answer : List jm_E := [(0, .aload_n 0, 1, []), (1, .iconst 0, 1, []), (2, .putfield 15, 3, [0, 1, 0]), (5, .aload_n 0, 1, []), (6, .aload_n 1, 1, []), (7, .iload_n 3, 1, []), (8, .invokestatic 19, 3, [3, 2]), (11, .aload_n 1, 1, []), (12, .iload_n 2, 1, []), (13, .iconst 0, 1, []), (14, .invokevirtual 23, 3, [5, 4, 0]), (17, .ireturn, 1, [0])]
def jm_p_X0_traced : List jm_E := [(0, .iload_n 1, 1, []), (1, .ifCond .lt 20, 3, [11]), (4, .iload_n 1, 1, []), (5, .aload_n 0, 1, []), (6, .getfield 15, 3, [0, 1, 0]), (9, .if_icmp .ge 12, 3, [11]), (12, .aload_n 0, 1, []), (13, .getfield 11, 3, [0, 0, 2]), (16, .iload_n 1, 1, []), (17, .iaload, 1, []), (18, .goto 5, 3, [12]), (21, .ldc 27, 2, [-1000000]), (23, .ireturn, 1, [0])]
def jm_p_X0_bodyOf : List jm_E := [(0, .aload_n 0, 1, []), (1, .getfield 28, 3, [1, 0, 0]), (4, .ifCond .lt 19, 3, [10]), (7, .aload_n 0, 1, []), (8, .getfield 28, 3, [1, 0, 0]), (11, .bipush 6, 2, []), (13, .if_icmp .ge 10, 3, [10]), (16, .aload_n 0, 1, []), (17, .getfield 28, 3, [1, 0, 0]), (20, .goto 4, 3, [11]), (23, .iconst 0, 1, []), (24, .istore_n 2, 1, []), (25, .iload_n 1, 1, []), (26, .ifCond .ne 11, 3, [18]), (29, .getstatic 33, 3, [-6]), (32, .iload_n 2, 1, []), (33, .iaload, 1, []), (34, .goto 8, 3, [21]), (37, .getstatic 36, 3, [-7]), (40, .iload_n 2, 1, []), (41, .iaload, 1, []), (42, .ireturn, 1, [0])]
def jm_p_X0_leaveTrace : List jm_E := [(0, .aload_n 0, 1, []), (1, .getfield 15, 3, [0, 1, 0]), (4, .bipush 16, 2, []), (6, .if_icmp .ge 23, 3, [16]), (9, .aload_n 0, 1, []), (10, .getfield 11, 3, [0, 0, 2]), (13, .aload_n 0, 1, []), (14, .getfield 15, 3, [0, 1, 0]), (17, .iload_n 1, 1, []), (18, .iastore, 1, []), (19, .aload_n 0, 1, []), (20, .dup, 1, []), (21, .getfield 15, 3, [0, 1, 0]), (24, .iconst 1, 1, []), (25, .iadd, 1, []), (26, .putfield 15, 3, [0, 1, 0]), (29, .return_, 1, [])]
def jm_p_X0_give : List jm_E := [(0, .iload 4, 2, []), (2, .bipush 16, 2, []), (4, .if_icmp .le 5, 3, [5]), (7, .iconst 0, 1, []), (8, .ireturn, 1, [0]), (9, .aload_n 0, 1, []), (10, .iload_n 1, 1, []), (11, .invokevirtual 39, 3, [4, 1, 0]), (14, .iload 4, 2, []), (16, .iconst 1, 1, []), (17, .iadd, 1, []), (18, .istore 5, 2, []), (20, .iload_n 1, 1, []), (21, .tableswitch 215 10 24 #[75, 80, 105, 117, 131, 215, 215, 215, 215, 215, 144, 146, 162, 177, 202], 75, [10, 14, 11, 17, 12, 33, 13, 41, 14, 50, 15, 105, 16, 105, 17, 105, 18, 105, 19, 105, 20, 59, 21, 61, 22, 71, 23, 80, 24, 96, 105]), (96, .aload_n 2, 1, []), (97, .getfield 43, 3, [1, 1, 0]), (100, .ireturn, 1, [0]), (101, .aload_n 0, 1, []), (102, .bipush 10, 2, []), (104, .aload_n 2, 1, []), (105, .iload_n 3, 1, []), (106, .iload 5, 2, []), (108, .invokevirtual 23, 3, [5, 4, 0]), (111, .aload_n 0, 1, []), (112, .aload_n 2, 1, []), (113, .iconst 1, 1, []), (114, .invokestatic 19, 3, [3, 2]), (117, .aload_n 2, 1, []), (118, .iload_n 3, 1, []), (119, .iload 5, 2, []), (121, .invokevirtual 23, 3, [5, 4, 0]), (124, .iadd, 1, []), (125, .ireturn, 1, [0]), (126, .aload_n 0, 1, []), (127, .bipush 11, 2, []), (129, .aload_n 2, 1, []), (130, .iload_n 3, 1, []), (131, .iload 5, 2, []), (133, .invokevirtual 23, 3, [5, 4, 0]), (136, .ineg, 1, []), (137, .ireturn, 1, [0]), (138, .aload_n 0, 1, []), (139, .bipush 10, 2, []), (141, .aload_n 2, 1, []), (142, .iload_n 3, 1, []), (143, .iload 5, 2, []), (145, .invokevirtual 23, 3, [5, 4, 0]), (148, .bipush 100, 2, []), (150, .isub, 1, []), (151, .ireturn, 1, [0]), (152, .iconst 2, 1, []), (153, .aload_n 0, 1, []), (154, .bipush 13, 2, []), (156, .aload_n 2, 1, []), (157, .iload_n 3, 1, []), (158, .iload 5, 2, []), (160, .invokevirtual 23, 3, [5, 4, 0]), (163, .imul, 1, []), (164, .ireturn, 1, [0]), (165, .iload_n 3, 1, []), (166, .ireturn, 1, [0]), (167, .aload_n 0, 1, []), (168, .bipush 20, 2, []), (170, .aload_n 2, 1, []), (171, .iload_n 3, 1, []), (172, .iload 5, 2, []), (174, .invokevirtual 23, 3, [5, 4, 0]), (177, .aload_n 2, 1, []), (178, .getfield 46, 3, [1, 4, 0]), (181, .iadd, 1, []), (182, .ireturn, 1, [0]), (183, .aload_n 0, 1, []), (184, .bipush 21, 2, []), (186, .aload_n 2, 1, []), (187, .iload_n 3, 1, []), (188, .iload 5, 2, []), (190, .invokevirtual 23, 3, [5, 4, 0]), (193, .sipush 1000, 3, []), (196, .isub, 1, []), (197, .ireturn, 1, [0]), (198, .aload_n 0, 1, []), (199, .bipush 20, 2, []), (201, .aload_n 2, 1, []), (202, .iload_n 3, 1, []), (203, .iload 5, 2, []), (205, .invokevirtual 23, 3, [5, 4, 0]), (208, .aload_n 0, 1, []), (209, .aload_n 2, 1, []), (210, .iconst 0, 1, []), (211, .invokestatic 19, 3, [3, 2]), (214, .aload_n 2, 1, []), (215, .iload_n 3, 1, []), (216, .iload 5, 2, []), (218, .invokevirtual 23, 3, [5, 4, 0]), (221, .isub, 1, []), (222, .ireturn, 1, [0]), (223, .iconst 2, 1, []), (224, .aload_n 0, 1, []), (225, .bipush 21, 2, []), (227, .aload_n 2, 1, []), (228, .iload_n 3, 1, []), (229, .iload 5, 2, []), (231, .invokevirtual 23, 3, [5, 4, 0]), (234, .imul, 1, []), (235, .ireturn, 1, [0]), (236, .iconst 0, 1, []), (237, .ireturn, 1, [0])]
def jm_p_X1_init : List jm_E := [(0, .aload_n 0, 1, []), (1, .invokespecial 3, 3, []), (4, .return_, 1, [])]
def jm_p_X1_takeOver : List jm_E := [(0, .aload_n 0, 1, []), (1, .aload_n 1, 1, []), (2, .getfield 9, 3, [1, 0, 0]), (5, .putfield 9, 3, [1, 0, 0]), (8, .aload_n 0, 1, []), (9, .aload_n 1, 1, []), (10, .getfield 15, 3, [1, 1, 0]), (13, .putfield 15, 3, [1, 1, 0]), (16, .aload_n 0, 1, []), (17, .aload_n 1, 1, []), (18, .getfield 18, 3, [1, 2, 0]), (21, .putfield 18, 3, [1, 2, 0]), (24, .aload_n 0, 1, []), (25, .aload_n 1, 1, []), (26, .getfield 21, 3, [1, 3, 0]), (29, .putfield 21, 3, [1, 3, 0]), (32, .aload_n 0, 1, []), (33, .aload_n 1, 1, []), (34, .getfield 24, 3, [1, 4, 0]), (37, .putfield 24, 3, [1, 4, 0]), (40, .return_, 1, [])]
def jm_p_X1_wipes : List jm_E := [(0, .aload_n 0, 1, []), (1, .getfield 9, 3, [1, 0, 0]), (4, .tableswitch 92 1 5 #[36, 41, 63, 76, 88], 36, [1, 3, 2, 6, 3, 18, 4, 25, 5, 33, 37]), (40, .aload_n 0, 1, []), (41, .getfield 21, 3, [1, 3, 0]), (44, .ireturn, 1, [0]), (45, .aload_n 0, 1, []), (46, .getfield 18, 3, [1, 2, 0]), (49, .iload_n 2, 1, []), (50, .if_icmp .ne 12, 3, [15]), (53, .iconst 2, 1, []), (54, .aload_n 0, 1, []), (55, .getfield 21, 3, [1, 3, 0]), (58, .imul, 1, []), (59, .goto 7, 3, [17]), (62, .aload_n 0, 1, []), (63, .getfield 21, 3, [1, 3, 0]), (66, .ireturn, 1, [0]), (67, .iload_n 1, 1, []), (68, .ifCond .ne 7, 3, [22]), (71, .iconst 0, 1, []), (72, .goto 7, 3, [24]), (75, .aload_n 0, 1, []), (76, .getfield 21, 3, [1, 3, 0]), (79, .ireturn, 1, [0]), (80, .iload_n 1, 1, []), (81, .ifCond .ne 9, 3, [31]), (84, .iload_n 3, 1, []), (85, .iconst 2, 1, []), (86, .idiv, 1, []), (87, .goto 4, 3, [32]), (90, .iconst 0, 1, []), (91, .ireturn, 1, [0]), (92, .iload_n 3, 1, []), (93, .iconst 2, 1, []), (94, .idiv, 1, []), (95, .ireturn, 1, [0]), (96, .iconst 0, 1, []), (97, .ireturn, 1, [0])]
def jm_p_X1_isOf : List jm_E := [(0, .aload_n 0, 1, []), (1, .getfield 9, 3, [1, 0, 0]), (4, .istore_n 2, 1, []), (5, .iconst 0, 1, []), (6, .istore_n 3, 1, []), (7, .iload_n 3, 1, []), (8, .bipush 6, 2, []), (10, .if_icmp .ge 30, 3, [22]), (13, .iload_n 2, 1, []), (14, .ifCond .le 26, 3, [22]), (17, .iload_n 2, 1, []), (18, .bipush 6, 2, []), (20, .if_icmp .ge 20, 3, [22]), (23, .iload_n 2, 1, []), (24, .iload_n 1, 1, []), (25, .if_icmp .eq 15, 3, [22]), (28, .getstatic 27, 3, [-3]), (31, .iload_n 2, 1, []), (32, .iaload, 1, []), (33, .istore_n 2, 1, []), (34, .iinc 3 1, 3, []), (37, .goto (-30), 3, [5]), (40, .iload_n 2, 1, []), (41, .iload_n 1, 1, []), (42, .if_icmp .ne 7, 3, [27]), (45, .iconst 1, 1, []), (46, .goto 4, 3, [28]), (49, .iconst 0, 1, []), (50, .ireturn, 1, [1])]
def jm_p_X2_init : List jm_E := [(0, .aload_n 0, 1, []), (1, .invokespecial 3, 3, []), (4, .aload_n 0, 1, []), (5, .new 9, 3, [8, 3]), (8, .dup, 1, []), (9, .invokespecial 11, 3, [82, 3, 12]), (12, .putfield 12, 3, [2, 0, 2]), (15, .aload_n 0, 1, []), (16, .new 18, 3, [1, 5]), (19, .dup, 1, []), (20, .invokespecial 20, 3, [6, 0, 0]), (23, .putfield 21, 3, [2, 1, 2]), (26, .aload_n 0, 1, []), (27, .bipush 24, 2, []), (29, .newarray .int, 2, [0]), (31, .putfield 25, 3, [2, 2, 2]), (34, .aload_n 0, 1, []), (35, .bipush 6, 2, []), (37, .newarray .int, 2, [0]), (39, .putfield 29, 3, [2, 3, 2]), (42, .aload_n 0, 1, []), (43, .bipush 6, 2, []), (45, .newarray .int, 2, [0]), (47, .putfield 32, 3, [2, 4, 2]), (50, .return_, 1, [])]
def jm_p_X2_cleanOnes : List jm_E := [(0, .iconst 0, 1, []), (1, .istore_n 2, 1, []), (2, .iconst 0, 1, []), (3, .istore_n 3, 1, []), (4, .iload_n 3, 1, []), (5, .aload_n 1, 1, []), (6, .getfield 35, 3, [4, 3, 0]), (9, .if_icmp .ge 40, 3, [29]), (12, .aload_n 0, 1, []), (13, .getfield 12, 3, [2, 0, 2]), (16, .aload_n 1, 1, []), (17, .invokevirtual 41, 3, [83, 1, 8]), (20, .aload_n 0, 1, []), (21, .getfield 12, 3, [2, 0, 2]), (24, .aload_n 1, 1, []), (25, .aload_n 1, 1, []), (26, .getfield 45, 3, [4, 5, 2]), (29, .iload_n 3, 1, []), (30, .aaload, 1, []), (31, .invokevirtual 49, 3, [84, 2, 8]), (34, .ifCond .ne 9, 3, [27]), (37, .iload_n 2, 1, []), (38, .iconst 1, 1, []), (39, .iload_n 3, 1, []), (40, .ishl, 1, []), (41, .ior, 1, []), (42, .istore_n 2, 1, []), (43, .iinc 3 1, 3, []), (46, .goto (-42), 3, [4]), (49, .iload_n 2, 1, []), (50, .ireturn, 1, [0])]
def jm_p_X2_told : List jm_E := [(0, .iload_n 1, 1, []), (1, .iconst (-1), 1, []), (2, .if_icmp .ne 8, 3, [6]), (5, .aload_n 0, 1, []), (6, .getfield 53, 3, [2, 5, 0]), (9, .ireturn, 1, [0]), (10, .iload_n 1, 1, []), (11, .ifCond .lt 23, 3, [19]), (14, .iload_n 1, 1, []), (15, .iload_n 2, 1, []), (16, .if_icmp .ge 18, 3, [19]), (19, .iload_n 1, 1, []), (20, .bipush 6, 2, []), (22, .if_icmp .ge 12, 3, [19]), (25, .aload_n 0, 1, []), (26, .getfield 32, 3, [2, 4, 2]), (29, .iload_n 1, 1, []), (30, .iaload, 1, []), (31, .goto 5, 3, [20]), (34, .ldc 56, 2, [-1000000]), (36, .ireturn, 1, [0])]
def jm_p_X2_seekOrder : List jm_E := [(0, .aload_n 0, 1, []), (1, .sipush 361, 3, []), (4, .putfield 53, 3, [2, 5, 0]), (7, .aload_n 0, 1, []), (8, .getfield 12, 3, [2, 0, 2]), (11, .aload_n 1, 1, []), (12, .invokevirtual 41, 3, [83, 1, 8]), (15, .aload_n 0, 1, []), (16, .aload_n 1, 1, []), (17, .iconst 0, 1, []), (18, .iconst 0, 1, []), (19, .iconst 0, 1, []), (20, .invokevirtual 57, 3, [14, 4, 2]), (23, .return_, 1, [])]
def jm_p_X2_tryOrders : List jm_E := [(0, .iload 4, 2, []), (2, .aload_n 0, 1, []), (3, .getfield 53, 3, [2, 5, 0]), (6, .if_icmp .lt 4, 3, [5]), (9, .return_, 1, []), (10, .iload_n 2, 1, []), (11, .aload_n 1, 1, []), (12, .getfield 35, 3, [4, 3, 0]), (15, .if_icmp .ge 9, 3, [12]), (18, .iload_n 2, 1, []), (19, .bipush 6, 2, []), (21, .if_icmp .lt 11, 3, [17]), (24, .aload_n 0, 1, []), (25, .iload_n 2, 1, []), (26, .iload 4, 2, []), (28, .invokevirtual 61, 3, [17, 2, 2]), (31, .return_, 1, []), (32, .aload_n 0, 1, []), (33, .getfield 12, 3, [2, 0, 2]), (36, .getfield 65, 3, [8, 1, 2]), (39, .iconst 0, 1, []), (40, .aload_n 0, 1, []), (41, .getfield 25, 3, [2, 2, 2]), (44, .iload_n 2, 1, []), (45, .iconst 4, 1, []), (46, .imul, 1, []), (47, .iconst 4, 1, []), (48, .invokestatic 68, 3, []), (51, .iconst 0, 1, []), (52, .istore 5, 2, []), (54, .iload 5, 2, []), (56, .aload_n 1, 1, []), (57, .getfield 35, 3, [4, 3, 0]), (60, .if_icmp .ge 81, 3, [81]), (63, .iload_n 3, 1, []), (64, .iload 5, 2, []), (66, .ishr, 1, []), (67, .iconst 1, 1, []), (68, .iand, 1, []), (69, .ifCond .ne 66, 3, [79]), (72, .aload_n 0, 1, []), (73, .getfield 25, 3, [2, 2, 2]), (76, .iload_n 2, 1, []), (77, .iconst 4, 1, []), (78, .imul, 1, []), (79, .aload_n 0, 1, []), (80, .getfield 12, 3, [2, 0, 2]), (83, .getfield 65, 3, [8, 1, 2]), (86, .iconst 0, 1, []), (87, .iconst 4, 1, []), (88, .invokestatic 68, 3, []), (91, .aload_n 0, 1, []), (92, .getfield 29, 3, [2, 3, 2]), (95, .iload_n 2, 1, []), (96, .iload 5, 2, []), (98, .iastore, 1, []), (99, .aload_n 0, 1, []), (100, .getfield 12, 3, [2, 0, 2]), (103, .aload_n 1, 1, []), (104, .aload_n 1, 1, []), (105, .getfield 45, 3, [4, 5, 2]), (108, .iload 5, 2, []), (110, .aaload, 1, []), (111, .invokevirtual 49, 3, [84, 2, 8]), (114, .istore 6, 2, []), (116, .aload_n 0, 1, []), (117, .aload_n 1, 1, []), (118, .iload_n 2, 1, []), (119, .iconst 1, 1, []), (120, .iadd, 1, []), (121, .iload_n 3, 1, []), (122, .iconst 1, 1, []), (123, .iload 5, 2, []), (125, .ishl, 1, []), (126, .ior, 1, []), (127, .iload 4, 2, []), (129, .iload 6, 2, []), (131, .iadd, 1, []), (132, .invokevirtual 57, 3, [14, 4, 2]), (135, .iinc 5 1, 3, []), (138, .goto (-84), 3, [30]), (141, .return_, 1, [])]
def jm_p_X2_seekLaying : List jm_E := [(0, .aload_n 0, 1, []), (1, .sipush 361, 3, []), (4, .putfield 53, 3, [2, 5, 0]), (7, .aload_n 0, 1, []), (8, .aload_n 1, 1, []), (9, .iconst 0, 1, []), (10, .iconst 0, 1, []), (11, .invokevirtual 74, 3, [16, 3, 2]), (14, .return_, 1, [])]
def jm_p_X2_tryLayings : List jm_E := [(0, .iload_n 2, 1, []), (1, .aload_n 1, 1, []), (2, .getfield 78, 3, [4, 2, 0]), (5, .if_icmp .ge 8, 3, [7]), (8, .iload_n 2, 1, []), (9, .iconst 4, 1, []), (10, .if_icmp .lt 59, 3, [36]), (13, .aload_n 0, 1, []), (14, .getfield 12, 3, [2, 0, 2]), (17, .aload_n 1, 1, []), (18, .invokevirtual 41, 3, [83, 1, 8]), (21, .aload_n 0, 1, []), (22, .getfield 29, 3, [2, 3, 2]), (25, .iconst 0, 1, []), (26, .aload_n 0, 1, []), (27, .getfield 12, 3, [2, 0, 2]), (30, .getfield 81, 3, [8, 0, 2]), (33, .iconst 0, 1, []), (34, .iload_n 2, 1, []), (35, .invokestatic 68, 3, []), (38, .aload_n 0, 1, []), (39, .getfield 12, 3, [2, 0, 2]), (42, .aload_n 1, 1, []), (43, .aload_n 1, 1, []), (44, .invokevirtual 84, 3, [42, 0, 4]), (47, .invokevirtual 88, 3, [85, 2, 8]), (50, .istore 4, 2, []), (52, .iload 4, 2, []), (54, .aload_n 0, 1, []), (55, .getfield 53, 3, [2, 5, 0]), (58, .if_icmp .ge 10, 3, [35]), (61, .aload_n 0, 1, []), (62, .iload_n 2, 1, []), (63, .iload 4, 2, []), (65, .invokevirtual 61, 3, [17, 2, 2]), (68, .return_, 1, []), (69, .iconst 0, 1, []), (70, .istore 4, 2, []), (72, .iload 4, 2, []), (74, .aload_n 1, 1, []), (75, .getfield 78, 3, [4, 2, 0]), (78, .if_icmp .ge 40, 3, [66]), (81, .iload_n 3, 1, []), (82, .iload 4, 2, []), (84, .ishr, 1, []), (85, .iconst 1, 1, []), (86, .iand, 1, []), (87, .ifCond .ne 25, 3, [64]), (90, .aload_n 0, 1, []), (91, .getfield 29, 3, [2, 3, 2]), (94, .iload_n 2, 1, []), (95, .iload 4, 2, []), (97, .iastore, 1, []), (98, .aload_n 0, 1, []), (99, .aload_n 1, 1, []), (100, .iload_n 2, 1, []), (101, .iconst 1, 1, []), (102, .iadd, 1, []), (103, .iload_n 3, 1, []), (104, .iconst 1, 1, []), (105, .iload 4, 2, []), (107, .ishl, 1, []), (108, .ior, 1, []), (109, .invokevirtual 74, 3, [16, 3, 2]), (112, .iinc 4 1, 3, []), (115, .goto (-43), 3, [38]), (118, .return_, 1, [])]
def jm_p_X2_keepTried : List jm_E := [(0, .aload_n 0, 1, []), (1, .iload_n 2, 1, []), (2, .putfield 53, 3, [2, 5, 0]), (5, .aload_n 0, 1, []), (6, .getfield 29, 3, [2, 3, 2]), (9, .iconst 0, 1, []), (10, .aload_n 0, 1, []), (11, .getfield 32, 3, [2, 4, 2]), (14, .iconst 0, 1, []), (15, .iload_n 1, 1, []), (16, .invokestatic 68, 3, []), (19, .return_, 1, [])]
def jm_p_X2_fewestBeaten : List jm_E := [(0, .ldc 56, 2, [-1000000]), (2, .istore 4, 2, []), (4, .iconst 0, 1, []), (5, .istore 5, 2, []), (7, .iload 5, 2, []), (9, .iconst 1, 1, []), (10, .aload_n 1, 1, []), (11, .getfield 78, 3, [4, 2, 0]), (14, .ishl, 1, []), (15, .if_icmp .ge 57, 3, [35]), (18, .iload 4, 2, []), (20, .ldc 56, 2, [-1000000]), (22, .if_icmp .eq 16, 3, [18]), (25, .iload 5, 2, []), (27, .invokestatic 92, 3, [223, 1]), (30, .iload 4, 2, []), (32, .invokestatic 92, 3, [223, 1]), (35, .if_icmp .ge 7, 3, [20]), (38, .iconst 1, 1, []), (39, .goto 4, 3, [21]), (42, .iconst 0, 1, []), (43, .istore 6, 2, []), (45, .iload 6, 2, []), (47, .ifCond .eq 19, 3, [33]), (50, .aload_n 0, 1, []), (51, .aload_n 1, 1, []), (52, .iload_n 2, 1, []), (53, .iload 5, 2, []), (55, .invokevirtual 98, 3, [19, 3, 2]), (58, .iload_n 3, 1, []), (59, .if_icmp .gt 7, 3, [33]), (62, .iload 5, 2, []), (64, .istore 4, 2, []), (66, .iinc 5 1, 3, []), (69, .goto (-62), 3, [4]), (72, .iload 4, 2, []), (74, .ireturn, 1, [0])]
def jm_p_X2_carriedIfBeaten : List jm_E := [(0, .aload_n 0, 1, []), (1, .getfield 12, 3, [2, 0, 2]), (4, .aload_n 1, 1, []), (5, .invokevirtual 41, 3, [83, 1, 8]), (8, .iconst 0, 1, []), (9, .istore 4, 2, []), (11, .iload 4, 2, []), (13, .aload_n 1, 1, []), (14, .getfield 78, 3, [4, 2, 0]), (17, .if_icmp .ge 30, 3, [25]), (20, .iload_n 3, 1, []), (21, .iload 4, 2, []), (23, .ishr, 1, []), (24, .iconst 1, 1, []), (25, .iand, 1, []), (26, .iconst 1, 1, []), (27, .if_icmp .ne 14, 3, [23]), (30, .aload_n 0, 1, []), (31, .getfield 12, 3, [2, 0, 2]), (34, .getfield 65, 3, [8, 1, 2]), (37, .iload 4, 2, []), (39, .iconst 0, 1, []), (40, .iastore, 1, []), (41, .iinc 4 1, 3, []), (44, .goto (-33), 3, [6]), (47, .aload_n 0, 1, []), (48, .getfield 12, 3, [2, 0, 2]), (51, .aload_n 1, 1, []), (52, .iload_n 2, 1, []), (53, .invokevirtual 88, 3, [85, 2, 8]), (56, .ireturn, 1, [0])]
def jm_p_X2_uniters : List jm_E := [(0, .iconst 0, 1, []), (1, .istore 4, 2, []), (3, .iconst 0, 1, []), (4, .istore 5, 2, []), (6, .iload 5, 2, []), (8, .aload_n 1, 1, []), (9, .getfield 35, 3, [4, 3, 0]), (12, .if_icmp .ge 78, 3, [49]), (15, .aload_n 0, 1, []), (16, .getfield 12, 3, [2, 0, 2]), (19, .aload_n 1, 1, []), (20, .invokevirtual 41, 3, [83, 1, 8]), (23, .aload_n 0, 1, []), (24, .getfield 12, 3, [2, 0, 2]), (27, .aload_n 1, 1, []), (28, .aload_n 1, 1, []), (29, .getfield 45, 3, [4, 5, 2]), (32, .iload 5, 2, []), (34, .aaload, 1, []), (35, .invokevirtual 49, 3, [84, 2, 8]), (38, .pop, 1, []), (39, .aload_n 1, 1, []), (40, .getfield 45, 3, [4, 5, 2]), (43, .iload 5, 2, []), (45, .aaload, 1, []), (46, .getfield 102, 3, [1, 2, 0]), (49, .istore 6, 2, []), (51, .aload_n 0, 1, []), (52, .aload_n 1, 1, []), (53, .iload_n 2, 1, []), (54, .iload_n 3, 1, []), (55, .iload 6, 2, []), (57, .invokevirtual 105, 3, [21, 4, 2]), (60, .ifCond .eq 24, 3, [47]), (63, .aload_n 0, 1, []), (64, .aload_n 1, 1, []), (65, .iload_n 3, 1, []), (66, .iload_n 2, 1, []), (67, .iload 6, 2, []), (69, .invokevirtual 105, 3, [21, 4, 2]), (72, .ifCond .eq 12, 3, [47]), (75, .iload 4, 2, []), (77, .iconst 1, 1, []), (78, .iload 5, 2, []), (80, .ishl, 1, []), (81, .ior, 1, []), (82, .istore 4, 2, []), (84, .iinc 5 1, 3, []), (87, .goto (-81), 3, [4]), (90, .iload 4, 2, []), (92, .ireturn, 1, [0])]
def jm_p_X2_bindsTo : List jm_E := [(0, .aload_n 1, 1, []), (1, .getfield 109, 3, [4, 4, 2]), (4, .iload_n 3, 1, []), (5, .aaload, 1, []), (6, .getfield 113, 3, [5, 0, 0]), (9, .istore 5, 2, []), (11, .iload 5, 2, []), (13, .iload 4, 2, []), (15, .if_icmp .ne 15, 3, [15]), (18, .aload_n 0, 1, []), (19, .getfield 12, 3, [2, 0, 2]), (22, .getfield 118, 3, [8, 2, 2]), (25, .iload_n 2, 1, []), (26, .iaload, 1, []), (27, .goto 4, 3, [16]), (30, .iconst 0, 1, []), (31, .istore 6, 2, []), (33, .aload_n 1, 1, []), (34, .getfield 109, 3, [4, 4, 2]), (37, .iload_n 2, 1, []), (38, .aaload, 1, []), (39, .getfield 121, 3, [5, 1, 2]), (42, .iload 5, 2, []), (44, .iaload, 1, []), (45, .iload 6, 2, []), (47, .iadd, 1, []), (48, .aload_n 1, 1, []), (49, .getfield 124, 3, [4, 1, 0]), (52, .if_icmp .lt 7, 3, [31]), (55, .iconst 1, 1, []), (56, .goto 4, 3, [32]), (59, .iconst 0, 1, []), (60, .ireturn, 1, [1])]
def jm_p_X2_culprits : List jm_E := [(0, .iconst 0, 1, []), (1, .istore 5, 2, []), (3, .iconst 0, 1, []), (4, .istore 6, 2, []), (6, .iload 6, 2, []), (8, .aload_n 1, 1, []), (9, .getfield 35, 3, [4, 3, 0]), (12, .if_icmp .ge 37, 3, [27]), (15, .aload_n 0, 1, []), (16, .aload_n 1, 1, []), (17, .aload_n 1, 1, []), (18, .getfield 45, 3, [4, 5, 2]), (21, .iload 6, 2, []), (23, .aaload, 1, []), (24, .aload_n 2, 1, []), (25, .iload_n 3, 1, []), (26, .iload 4, 2, []), (28, .invokevirtual 127, 3, [26, 5, 2]), (31, .ifCond .eq 12, 3, [25]), (34, .iload 5, 2, []), (36, .iconst 1, 1, []), (37, .iload 6, 2, []), (39, .ishl, 1, []), (40, .ior, 1, []), (41, .istore 5, 2, []), (43, .iinc 6 1, 3, []), (46, .goto (-40), 3, [4]), (49, .iload 5, 2, []), (51, .ireturn, 1, [0])]
def jm_p_X2_tryAs : List jm_E := [(0, .aload_n 0, 1, []), (1, .getfield 21, 3, [2, 1, 2]), (4, .aload_n 1, 1, []), (5, .invokevirtual 131, 3, [7, 1, 1]), (8, .return_, 1, [])]
def jm_p_X2_fitting : List jm_E := [(0, .iconst 0, 1, []), (1, .istore 6, 2, []), (3, .getstatic 135, 3, [-4]), (6, .iload_n 2, 1, []), (7, .iaload, 1, []), (8, .istore 7, 2, []), (10, .iload 7, 2, []), (12, .getstatic 138, 3, [-5]), (15, .iload_n 2, 1, []), (16, .iaload, 1, []), (17, .if_icmp .gt 42, 3, [32]), (20, .aload_n 0, 1, []), (21, .iload_n 2, 1, []), (22, .iload 7, 2, []), (24, .invokevirtual 141, 3, [25, 2, 2]), (27, .aload_n 0, 1, []), (28, .aload_n 1, 1, []), (29, .aload_n 0, 1, []), (30, .getfield 21, 3, [2, 1, 2]), (33, .aload_n 3, 1, []), (34, .iload 4, 2, []), (36, .iload 5, 2, []), (38, .invokevirtual 127, 3, [26, 5, 2]), (41, .ifCond .eq 12, 3, [30]), (44, .iload 6, 2, []), (46, .iconst 1, 1, []), (47, .iload 7, 2, []), (49, .ishl, 1, []), (50, .ior, 1, []), (51, .istore 6, 2, []), (53, .iinc 7 1, 3, []), (56, .goto (-46), 3, [6]), (59, .iload 6, 2, []), (61, .ireturn, 1, [0])]
def jm_p_X2_giveTrait : List jm_E := [(0, .iload_n 1, 1, []), (1, .tableswitch 60 0 2 #[27, 38, 49], 27, [0, 2, 1, 7, 2, 12, 17]), (28, .aload_n 0, 1, []), (29, .getfield 21, 3, [2, 1, 2]), (32, .iload_n 2, 1, []), (33, .putfield 144, 3, [1, 0, 0]), (36, .goto 33, 3, [21]), (39, .aload_n 0, 1, []), (40, .getfield 21, 3, [2, 1, 2]), (43, .iload_n 2, 1, []), (44, .putfield 147, 3, [1, 1, 0]), (47, .goto 22, 3, [21]), (50, .aload_n 0, 1, []), (51, .getfield 21, 3, [2, 1, 2]), (54, .iload_n 2, 1, []), (55, .putfield 149, 3, [1, 3, 0]), (58, .goto 11, 3, [21]), (61, .aload_n 0, 1, []), (62, .getfield 21, 3, [2, 1, 2]), (65, .iload_n 2, 1, []), (66, .putfield 102, 3, [1, 2, 0]), (69, .return_, 1, [])]
def jm_p_X2_isSoBehind : List jm_E := [(0, .aload_n 0, 1, []), (1, .getfield 12, 3, [2, 0, 2]), (4, .aload_n 1, 1, []), (5, .invokevirtual 41, 3, [83, 1, 8]), (8, .aload_n 0, 1, []), (9, .getfield 12, 3, [2, 0, 2]), (12, .aload_n 1, 1, []), (13, .aload_n 2, 1, []), (14, .invokevirtual 49, 3, [84, 2, 8]), (17, .pop, 1, []), (18, .iconst 0, 1, []), (19, .istore 6, 2, []), (21, .iload 6, 2, []), (23, .aload_n 1, 1, []), (24, .getfield 78, 3, [4, 2, 0]), (27, .if_icmp .ge 35, 3, [32]), (30, .aload_n 0, 1, []), (31, .getfield 12, 3, [2, 0, 2]), (34, .getfield 65, 3, [8, 1, 2]), (37, .iload 6, 2, []), (39, .iaload, 1, []), (40, .aload_n 3, 1, []), (41, .iload 4, 2, []), (43, .iload 5, 2, []), (45, .iload 6, 2, []), (47, .iadd, 1, []), (48, .invokevirtual 152, 3, [76, 2, 7]), (51, .if_icmp .eq 5, 3, [30]), (54, .iconst 0, 1, []), (55, .ireturn, 1, [1]), (56, .iinc 6 1, 3, []), (59, .goto (-38), 3, [12]), (62, .iconst 1, 1, []), (63, .ireturn, 1, [1])]
def jm_p_X2_likelihood : List jm_E := [(0, .iconst 1, 1, []), (1, .istore 5, 2, []), (3, .iconst 0, 1, []), (4, .istore 6, 2, []), (6, .iload 6, 2, []), (8, .aload_n 1, 1, []), (9, .getfield 35, 3, [4, 3, 0]), (12, .if_icmp .ge 16, 3, [14]), (15, .iload 5, 2, []), (17, .bipush 10, 2, []), (19, .imul, 1, []), (20, .istore 5, 2, []), (22, .iinc 6 1, 3, []), (25, .goto (-19), 3, [4]), (28, .iconst 0, 1, []), (29, .istore 6, 2, []), (31, .iconst 0, 1, []), (32, .istore 7, 2, []), (34, .iload 7, 2, []), (36, .aload_n 1, 1, []), (37, .invokevirtual 84, 3, [42, 0, 4]), (40, .if_icmp .gt 43, 3, [42]), (43, .aload_n 0, 1, []), (44, .getfield 12, 3, [2, 0, 2]), (47, .aload_n 1, 1, []), (48, .invokevirtual 41, 3, [83, 1, 8]), (51, .aload_n 0, 1, []), (52, .getfield 12, 3, [2, 0, 2]), (55, .aload_n 1, 1, []), (56, .iload 7, 2, []), (58, .invokevirtual 88, 3, [85, 2, 8]), (61, .iload_n 2, 1, []), (62, .if_icmp .gt 15, 3, [40]), (65, .iload 6, 2, []), (67, .aload_n 1, 1, []), (68, .iload 7, 2, []), (70, .iload_n 3, 1, []), (71, .invokestatic 158, 3, [28, 3]), (74, .iadd, 1, []), (75, .istore 6, 2, []), (77, .iinc 7 1, 3, []), (80, .goto (-46), 3, [18]), (83, .iload 5, 2, []), (85, .iload 6, 2, []), (87, .invokestatic 161, 3, [29, 2]), (90, .istore 7, 2, []), (92, .iload 7, 2, []), (94, .ifCond .ne 8, 3, [50]), (97, .ldc 56, 2, [-1000000]), (99, .goto 18, 3, [57]), (102, .iload 4, 2, []), (104, .ifCond .eq 8, 3, [54]), (107, .iload 6, 2, []), (109, .goto 5, 3, [55]), (112, .iload 5, 2, []), (114, .iload 7, 2, []), (116, .idiv, 1, []), (117, .ireturn, 1, [0])]
def jm_p_X2_weight : List jm_E := [(0, .iconst 1, 1, []), (1, .istore_n 3, 1, []), (2, .iconst 0, 1, []), (3, .istore 4, 2, []), (5, .iload 4, 2, []), (7, .aload_n 0, 1, []), (8, .getfield 35, 3, [4, 3, 0]), (11, .if_icmp .ge 30, 3, [25]), (14, .iload_n 3, 1, []), (15, .iload_n 1, 1, []), (16, .iload 4, 2, []), (18, .ishr, 1, []), (19, .iconst 1, 1, []), (20, .iand, 1, []), (21, .iconst 1, 1, []), (22, .if_icmp .ne 10, 3, [20]), (25, .bipush 10, 2, []), (27, .iload_n 2, 1, []), (28, .isub, 1, []), (29, .goto 4, 3, [21]), (32, .iload_n 2, 1, []), (33, .imul, 1, []), (34, .istore_n 3, 1, []), (35, .iinc 4 1, 3, []), (38, .goto (-33), 3, [4]), (41, .iload_n 3, 1, []), (42, .ireturn, 1, [0])]
def jm_p_X2_commonDivisor : List jm_E := [(0, .iload_n 0, 1, []), (1, .istore_n 2, 1, []), (2, .iload_n 1, 1, []), (3, .istore_n 3, 1, []), (4, .iconst 0, 1, []), (5, .istore 4, 2, []), (7, .iload 4, 2, []), (9, .bipush 64, 2, []), (11, .if_icmp .ge 23, 3, [21]), (14, .iload_n 3, 1, []), (15, .ifCond .eq 19, 3, [21]), (18, .iload_n 2, 1, []), (19, .iload_n 3, 1, []), (20, .irem, 1, []), (21, .istore 5, 2, []), (23, .iload_n 3, 1, []), (24, .istore_n 2, 1, []), (25, .iload 5, 2, []), (27, .istore_n 3, 1, []), (28, .iinc 4 1, 3, []), (31, .goto (-24), 3, [6]), (34, .iload_n 2, 1, []), (35, .ireturn, 1, [0])]
def jm_p_X2_years : List jm_E := [(0, .iload_n 3, 1, []), (1, .i2l, 1, []), (2, .lstore 5, 2, []), (4, .iconst 0, 1, []), (5, .istore 7, 2, []), (7, .aload_n 0, 1, []), (8, .getfield 12, 3, [2, 0, 2]), (11, .aload_n 1, 1, []), (12, .invokevirtual 41, 3, [83, 1, 8]), (15, .iconst 0, 1, []), (16, .istore 8, 2, []), (18, .iload 8, 2, []), (20, .iload_n 2, 1, []), (21, .if_icmp .ge 91, 3, [61]), (24, .lload 5, 2, []), (26, .ldc2_w 164, 3, [16807]), (29, .lmul, 1, []), (30, .ldc2_w 166, 3, [2147483647]), (33, .lrem, 1, []), (34, .lstore 5, 2, []), (36, .lload 5, 2, []), (38, .ldc2_w 168, 3, [7]), (41, .lrem, 1, []), (42, .lconst 0, 1, []), (43, .lcmp, 1, []), (44, .ifCond .ne 28, 3, [40]), (47, .aload_n 1, 1, []), (48, .getfield 78, 3, [4, 2, 0]), (51, .ifCond .le 21, 3, [40]), (54, .aload_n 0, 1, []), (55, .getfield 12, 3, [2, 0, 2]), (58, .getfield 65, 3, [8, 1, 2]), (61, .lload 5, 2, []), (63, .aload_n 1, 1, []), (64, .getfield 78, 3, [4, 2, 0]), (67, .i2l, 1, []), (68, .lrem, 1, []), (69, .l2i, 1, []), (70, .iconst 0, 1, []), (71, .iastore, 1, []), (72, .aload_n 1, 1, []), (73, .getfield 35, 3, [4, 3, 0]), (76, .ifCond .le 30, 3, [59]), (79, .iload 7, 2, []), (81, .aload_n 0, 1, []), (82, .getfield 12, 3, [2, 0, 2]), (85, .aload_n 1, 1, []), (86, .aload_n 1, 1, []), (87, .getfield 45, 3, [4, 5, 2]), (90, .lload 5, 2, []), (92, .aload_n 1, 1, []), (93, .getfield 35, 3, [4, 3, 0]), (96, .i2l, 1, []), (97, .lrem, 1, []), (98, .l2i, 1, []), (99, .aaload, 1, []), (100, .invokevirtual 49, 3, [84, 2, 8]), (103, .iadd, 1, []), (104, .istore 7, 2, []), (106, .iinc 8 1, 3, []), (109, .goto (-91), 3, [11]), (112, .iload 4, 2, []), (114, .ifCond .eq 8, 3, [65]), (117, .iload 7, 2, []), (119, .goto 11, 3, [69]), (122, .aload_n 0, 1, []), (123, .getfield 12, 3, [2, 0, 2]), (126, .aload_n 1, 1, []), (127, .invokevirtual 170, 3, [86, 1, 8]), (130, .ireturn, 1, [0])]
def jm_p_X3_init : List jm_E := [(0, .aload_n 0, 1, []), (1, .invokespecial 1, 3, []), (4, .aload_n 0, 1, []), (5, .sipush 960, 3, []), (8, .newarray .int, 2, [0]), (10, .putfield 11, 3, [3, 0, 2]), (13, .return_, 1, [])]
def jm_p_X3_isEmpty : List jm_E := [(0, .aload_n 0, 1, []), (1, .getfield 15, 3, [3, 2, 0]), (4, .ifCond .ne 7, 3, [5]), (7, .iconst 1, 1, []), (8, .goto 4, 3, [6]), (11, .iconst 0, 1, []), (12, .ireturn, 1, [1])]
def jm_p_X3_size : List jm_E := [(0, .aload_n 0, 1, []), (1, .getfield 15, 3, [3, 2, 0]), (4, .ireturn, 1, [0])]
def jm_p_X3_forget : List jm_E := [(0, .aload_n 0, 1, []), (1, .iconst 0, 1, []), (2, .putfield 15, 3, [3, 2, 0]), (5, .return_, 1, [])]
def jm_p_X3_keep : List jm_E := [(0, .aload_n 1, 1, []), (1, .aload_n 0, 1, []), (2, .getfield 11, 3, [3, 0, 2]), (5, .aload_n 0, 1, []), (6, .getfield 19, 3, [3, 1, 0]), (9, .bipush 40, 2, []), (11, .imul, 1, []), (12, .invokevirtual 22, 3, [40, 2, 4]), (15, .aload_n 0, 1, []), (16, .aload_n 0, 1, []), (17, .getfield 19, 3, [3, 1, 0]), (20, .iconst 1, 1, []), (21, .iadd, 1, []), (22, .bipush 24, 2, []), (24, .irem, 1, []), (25, .putfield 19, 3, [3, 1, 0]), (28, .aload_n 0, 1, []), (29, .bipush 24, 2, []), (31, .aload_n 0, 1, []), (32, .getfield 15, 3, [3, 2, 0]), (35, .iconst 1, 1, []), (36, .iadd, 1, []), (37, .invokestatic 26, 3, [0]), (40, .putfield 15, 3, [3, 2, 0]), (43, .return_, 1, [])]
def jm_p_X3_takeBack : List jm_E := [(0, .aload_n 0, 1, []), (1, .getfield 15, 3, [3, 2, 0]), (4, .ifCond .le 44, 3, [27]), (7, .aload_n 0, 1, []), (8, .aload_n 0, 1, []), (9, .getfield 19, 3, [3, 1, 0]), (12, .bipush 24, 2, []), (14, .iadd, 1, []), (15, .iconst 1, 1, []), (16, .isub, 1, []), (17, .bipush 24, 2, []), (19, .irem, 1, []), (20, .putfield 19, 3, [3, 1, 0]), (23, .aload_n 0, 1, []), (24, .dup, 1, []), (25, .getfield 15, 3, [3, 2, 0]), (28, .iconst 1, 1, []), (29, .isub, 1, []), (30, .putfield 15, 3, [3, 2, 0]), (33, .aload_n 1, 1, []), (34, .aload_n 0, 1, []), (35, .getfield 11, 3, [3, 0, 2]), (38, .aload_n 0, 1, []), (39, .getfield 19, 3, [3, 1, 0]), (42, .bipush 40, 2, []), (44, .imul, 1, []), (45, .invokevirtual 32, 3, [41, 2, 4]), (48, .aload_n 0, 1, []), (49, .getfield 15, 3, [3, 2, 0]), (52, .ireturn, 1, [0])]
def jm_p_X4_init : List jm_E := [(0, .aload_n 0, 1, []), (1, .invokespecial 3, 3, []), (4, .aload_n 0, 1, []), (5, .iconst 4, 1, []), (6, .anewarray 9, 3, [2]), (9, .putfield 11, 3, [4, 4, 2]), (12, .aload_n 0, 1, []), (13, .bipush 6, 2, []), (15, .anewarray 17, 3, [3]), (18, .putfield 19, 3, [4, 5, 2]), (21, .iconst 0, 1, []), (22, .istore_n 1, 1, []), (23, .iload_n 1, 1, []), (24, .iconst 4, 1, []), (25, .if_icmp .ge 22, 3, [24]), (28, .aload_n 0, 1, []), (29, .getfield 11, 3, [4, 4, 2]), (32, .iload_n 1, 1, []), (33, .new 9, 3, [5, 2]), (36, .dup, 1, []), (37, .invokespecial 23, 3, [51, 1, 6]), (40, .aastore, 1, []), (41, .iinc 1 1, 3, []), (44, .goto (-21), 3, [12]), (47, .iconst 0, 1, []), (48, .istore_n 1, 1, []), (49, .iload_n 1, 1, []), (50, .bipush 6, 2, []), (52, .if_icmp .ge 22, 3, [38]), (55, .aload_n 0, 1, []), (56, .getfield 19, 3, [4, 5, 2]), (59, .iload_n 1, 1, []), (60, .new 17, 3, [1, 5]), (63, .dup, 1, []), (64, .invokespecial 24, 3, [6, 0, 0]), (67, .aastore, 1, []), (68, .iinc 1 1, 3, []), (71, .goto (-22), 3, [26]), (74, .return_, 1, [])]
def jm_p_X4_clear : List jm_E := [(0, .aload_n 0, 1, []), (1, .iconst 0, 1, []), (2, .putfield 25, 3, [4, 0, 0]), (5, .aload_n 0, 1, []), (6, .iconst 0, 1, []), (7, .putfield 29, 3, [4, 1, 0]), (10, .aload_n 0, 1, []), (11, .iconst 0, 1, []), (12, .putfield 32, 3, [4, 2, 0]), (15, .aload_n 0, 1, []), (16, .iconst 0, 1, []), (17, .putfield 35, 3, [4, 3, 0]), (20, .iconst 0, 1, []), (21, .istore_n 1, 1, []), (22, .iload_n 1, 1, []), (23, .iconst 4, 1, []), (24, .if_icmp .ge 18, 3, [24]), (27, .aload_n 0, 1, []), (28, .getfield 11, 3, [4, 4, 2]), (31, .iload_n 1, 1, []), (32, .aaload, 1, []), (33, .invokevirtual 38, 3, [54, 0, 5]), (36, .iinc 1 1, 3, []), (39, .goto (-17), 3, [14]), (42, .iconst 0, 1, []), (43, .istore_n 1, 1, []), (44, .iload_n 1, 1, []), (45, .bipush 6, 2, []), (47, .if_icmp .ge 19, 3, [37]), (50, .aload_n 0, 1, []), (51, .getfield 19, 3, [4, 5, 2]), (54, .iload_n 1, 1, []), (55, .aaload, 1, []), (56, .iconst 0, 1, []), (57, .putfield 41, 3, [1, 4, 0]), (60, .iinc 1 1, 3, []), (63, .goto (-19), 3, [26]), (66, .return_, 1, [])]
def jm_p_X4_takeOver : List jm_E := [(0, .aload_n 0, 1, []), (1, .aload_n 1, 1, []), (2, .getfield 25, 3, [4, 0, 0]), (5, .putfield 25, 3, [4, 0, 0]), (8, .aload_n 0, 1, []), (9, .aload_n 1, 1, []), (10, .getfield 29, 3, [4, 1, 0]), (13, .putfield 29, 3, [4, 1, 0]), (16, .aload_n 0, 1, []), (17, .aload_n 1, 1, []), (18, .getfield 32, 3, [4, 2, 0]), (21, .putfield 32, 3, [4, 2, 0]), (24, .aload_n 0, 1, []), (25, .aload_n 1, 1, []), (26, .getfield 35, 3, [4, 3, 0]), (29, .putfield 35, 3, [4, 3, 0]), (32, .iconst 0, 1, []), (33, .istore_n 2, 1, []), (34, .iload_n 2, 1, []), (35, .iconst 4, 1, []), (36, .if_icmp .ge 24, 3, [32]), (39, .aload_n 0, 1, []), (40, .getfield 11, 3, [4, 4, 2]), (43, .iload_n 2, 1, []), (44, .aaload, 1, []), (45, .aload_n 1, 1, []), (46, .getfield 11, 3, [4, 4, 2]), (49, .iload_n 2, 1, []), (50, .aaload, 1, []), (51, .invokevirtual 44, 3, [55, 1, 5]), (54, .iinc 2 1, 3, []), (57, .goto (-23), 3, [18]), (60, .iconst 0, 1, []), (61, .istore_n 2, 1, []), (62, .iload_n 2, 1, []), (63, .bipush 6, 2, []), (65, .if_icmp .ge 24, 3, [48]), (68, .aload_n 0, 1, []), (69, .getfield 19, 3, [4, 5, 2]), (72, .iload_n 2, 1, []), (73, .aaload, 1, []), (74, .aload_n 1, 1, []), (75, .getfield 19, 3, [4, 5, 2]), (78, .iload_n 2, 1, []), (79, .aaload, 1, []), (80, .invokevirtual 48, 3, [7, 1, 1]), (83, .iinc 2 1, 3, []), (86, .goto (-24), 3, [34]), (89, .return_, 1, [])]
def jm_p_X4_writeCells : List jm_E := [(0, .iload_n 2, 1, []), (1, .istore_n 3, 1, []), (2, .iconst 0, 1, []), (3, .istore 4, 2, []), (5, .iload 4, 2, []), (7, .iconst 4, 1, []), (8, .if_icmp .ge 45, 3, [30]), (11, .aload_n 1, 1, []), (12, .iload_n 3, 1, []), (13, .aload_n 0, 1, []), (14, .getfield 11, 3, [4, 4, 2]), (17, .iload 4, 2, []), (19, .aaload, 1, []), (20, .getfield 51, 3, [5, 0, 0]), (23, .iastore, 1, []), (24, .aload_n 0, 1, []), (25, .getfield 11, 3, [4, 4, 2]), (28, .iload 4, 2, []), (30, .aaload, 1, []), (31, .getfield 54, 3, [5, 1, 2]), (34, .iconst 0, 1, []), (35, .aload_n 1, 1, []), (36, .iload_n 3, 1, []), (37, .iconst 1, 1, []), (38, .iadd, 1, []), (39, .bipush 6, 2, []), (41, .invokestatic 58, 3, []), (44, .iinc 3 7, 3, []), (47, .iinc 4 1, 3, []), (50, .goto (-45), 3, [4]), (53, .iconst 0, 1, []), (54, .istore 4, 2, []), (56, .iload 4, 2, []), (58, .bipush 6, 2, []), (60, .if_icmp .ge 40, 3, [56]), (63, .aload_n 1, 1, []), (64, .iload_n 3, 1, []), (65, .aload_n 0, 1, []), (66, .getfield 19, 3, [4, 5, 2]), (69, .iload 4, 2, []), (71, .aaload, 1, []), (72, .getfield 64, 3, [1, 1, 0]), (75, .iastore, 1, []), (76, .aload_n 1, 1, []), (77, .iload_n 3, 1, []), (78, .iconst 1, 1, []), (79, .iadd, 1, []), (80, .aload_n 0, 1, []), (81, .getfield 19, 3, [4, 5, 2]), (84, .iload 4, 2, []), (86, .aaload, 1, []), (87, .getfield 41, 3, [1, 4, 0]), (90, .iastore, 1, []), (91, .iinc 3 2, 3, []), (94, .iinc 4 1, 3, []), (97, .goto (-41), 3, [32]), (100, .return_, 1, [])]
def jm_p_X4_readCells : List jm_E := [(0, .iload_n 2, 1, []), (1, .istore_n 3, 1, []), (2, .iconst 0, 1, []), (3, .istore 4, 2, []), (5, .iload 4, 2, []), (7, .iconst 4, 1, []), (8, .if_icmp .ge 45, 3, [30]), (11, .aload_n 0, 1, []), (12, .getfield 11, 3, [4, 4, 2]), (15, .iload 4, 2, []), (17, .aaload, 1, []), (18, .aload_n 1, 1, []), (19, .iload_n 3, 1, []), (20, .iaload, 1, []), (21, .putfield 51, 3, [5, 0, 0]), (24, .aload_n 1, 1, []), (25, .iload_n 3, 1, []), (26, .iconst 1, 1, []), (27, .iadd, 1, []), (28, .aload_n 0, 1, []), (29, .getfield 11, 3, [4, 4, 2]), (32, .iload 4, 2, []), (34, .aaload, 1, []), (35, .getfield 54, 3, [5, 1, 2]), (38, .iconst 0, 1, []), (39, .bipush 6, 2, []), (41, .invokestatic 58, 3, []), (44, .iinc 3 7, 3, []), (47, .iinc 4 1, 3, []), (50, .goto (-45), 3, [4]), (53, .iconst 0, 1, []), (54, .istore 4, 2, []), (56, .iload 4, 2, []), (58, .bipush 6, 2, []), (60, .if_icmp .ge 40, 3, [56]), (63, .aload_n 0, 1, []), (64, .getfield 19, 3, [4, 5, 2]), (67, .iload 4, 2, []), (69, .aaload, 1, []), (70, .aload_n 1, 1, []), (71, .iload_n 3, 1, []), (72, .iaload, 1, []), (73, .putfield 64, 3, [1, 1, 0]), (76, .aload_n 0, 1, []), (77, .getfield 19, 3, [4, 5, 2]), (80, .iload 4, 2, []), (82, .aaload, 1, []), (83, .aload_n 1, 1, []), (84, .iload_n 3, 1, []), (85, .iconst 1, 1, []), (86, .iadd, 1, []), (87, .iaload, 1, []), (88, .putfield 41, 3, [1, 4, 0]), (91, .iinc 3 2, 3, []), (94, .iinc 4 1, 3, []), (97, .goto (-41), 3, [32]), (100, .return_, 1, [])]
def jm_p_X4_allComers : List jm_E := [(0, .iconst 1, 1, []), (1, .aload_n 0, 1, []), (2, .getfield 35, 3, [4, 3, 0]), (5, .ishl, 1, []), (6, .iconst 1, 1, []), (7, .isub, 1, []), (8, .ireturn, 1, [0])]
def jm_p_X4_receive : List jm_E := [(0, .aload_n 2, 1, []), (1, .aload_n 0, 1, []), (2, .invokevirtual 66, 3, [83, 1, 8]), (5, .aload_n 2, 1, []), (6, .aload_n 0, 1, []), (7, .aload_n 1, 1, []), (8, .invokevirtual 72, 3, [84, 2, 8]), (11, .istore_n 3, 1, []), (12, .iconst 0, 1, []), (13, .istore 4, 2, []), (15, .iload 4, 2, []), (17, .aload_n 0, 1, []), (18, .getfield 32, 3, [4, 2, 0]), (21, .if_icmp .ge 34, 3, [31]), (24, .aload_n 0, 1, []), (25, .getfield 11, 3, [4, 4, 2]), (28, .iload 4, 2, []), (30, .aaload, 1, []), (31, .getfield 54, 3, [5, 1, 2]), (34, .aload_n 1, 1, []), (35, .getfield 76, 3, [1, 2, 0]), (38, .dup2, 1, []), (39, .iaload, 1, []), (40, .aload_n 2, 1, []), (41, .getfield 79, 3, [8, 2, 2]), (44, .iload 4, 2, []), (46, .iaload, 1, []), (47, .iadd, 1, []), (48, .iastore, 1, []), (49, .iinc 4 1, 3, []), (52, .goto (-37), 3, [10]), (55, .aload_n 1, 1, []), (56, .dup, 1, []), (57, .getfield 41, 3, [1, 4, 0]), (60, .iconst 1, 1, []), (61, .iadd, 1, []), (62, .putfield 41, 3, [1, 4, 0]), (65, .iload_n 3, 1, []), (66, .ireturn, 1, [0])]
def jm_p_X4_swapWithNext : List jm_E := [(0, .aload_n 0, 1, []), (1, .getfield 11, 3, [4, 4, 2]), (4, .iload_n 1, 1, []), (5, .aaload, 1, []), (6, .astore_n 2, 1, []), (7, .aload_n 0, 1, []), (8, .getfield 11, 3, [4, 4, 2]), (11, .iload_n 1, 1, []), (12, .aload_n 0, 1, []), (13, .getfield 11, 3, [4, 4, 2]), (16, .iload_n 1, 1, []), (17, .iconst 1, 1, []), (18, .iadd, 1, []), (19, .aaload, 1, []), (20, .aastore, 1, []), (21, .aload_n 0, 1, []), (22, .getfield 11, 3, [4, 4, 2]), (25, .iload_n 1, 1, []), (26, .iconst 1, 1, []), (27, .iadd, 1, []), (28, .aload_n 2, 1, []), (29, .aastore, 1, []), (30, .return_, 1, [])]
def jm_p_X4_rainOnAll : List jm_E := [(0, .iconst 0, 1, []), (1, .istore_n 2, 1, []), (2, .iconst 0, 1, []), (3, .istore_n 3, 1, []), (4, .iload_n 3, 1, []), (5, .aload_n 0, 1, []), (6, .getfield 35, 3, [4, 3, 0]), (9, .if_icmp .ge 46, 3, [32]), (12, .aload_n 0, 1, []), (13, .getfield 19, 3, [4, 5, 2]), (16, .iload_n 3, 1, []), (17, .aaload, 1, []), (18, .bipush 60, 2, []), (20, .aload_n 0, 1, []), (21, .getfield 19, 3, [4, 5, 2]), (24, .iload_n 3, 1, []), (25, .aaload, 1, []), (26, .getfield 64, 3, [1, 1, 0]), (29, .iload_n 1, 1, []), (30, .iadd, 1, []), (31, .invokestatic 82, 3, [0]), (34, .putfield 64, 3, [1, 1, 0]), (37, .iload_n 2, 1, []), (38, .aload_n 0, 1, []), (39, .getfield 19, 3, [4, 5, 2]), (42, .iload_n 3, 1, []), (43, .aaload, 1, []), (44, .getfield 64, 3, [1, 1, 0]), (47, .iadd, 1, []), (48, .istore_n 2, 1, []), (49, .iinc 3 1, 3, []), (52, .goto (-48), 3, [4]), (55, .iload_n 2, 1, []), (56, .ireturn, 1, [0])]
def jm_p_X4_areAtOne : List jm_E := [(0, .aload_n 0, 1, []), (1, .getfield 11, 3, [4, 4, 2]), (4, .iload_n 1, 1, []), (5, .aaload, 1, []), (6, .getfield 54, 3, [5, 1, 2]), (9, .aload_n 0, 1, []), (10, .getfield 11, 3, [4, 4, 2]), (13, .iload_n 2, 1, []), (14, .aaload, 1, []), (15, .getfield 51, 3, [5, 0, 0]), (18, .iaload, 1, []), (19, .aload_n 0, 1, []), (20, .getfield 29, 3, [4, 1, 0]), (23, .if_icmp .lt 33, 3, [30]), (26, .aload_n 0, 1, []), (27, .getfield 11, 3, [4, 4, 2]), (30, .iload_n 2, 1, []), (31, .aaload, 1, []), (32, .getfield 54, 3, [5, 1, 2]), (35, .aload_n 0, 1, []), (36, .getfield 11, 3, [4, 4, 2]), (39, .iload_n 1, 1, []), (40, .aaload, 1, []), (41, .getfield 51, 3, [5, 0, 0]), (44, .iaload, 1, []), (45, .aload_n 0, 1, []), (46, .getfield 29, 3, [4, 1, 0]), (49, .if_icmp .lt 7, 3, [30]), (52, .iconst 1, 1, []), (53, .goto 4, 3, [31]), (56, .iconst 0, 1, []), (57, .ireturn, 1, [1])]
def jm_p_X4_pactCount : List jm_E := [(0, .iconst 0, 1, []), (1, .istore_n 1, 1, []), (2, .iconst 0, 1, []), (3, .istore_n 2, 1, []), (4, .iload_n 2, 1, []), (5, .aload_n 0, 1, []), (6, .getfield 32, 3, [4, 2, 0]), (9, .if_icmp .ge 39, 3, [26]), (12, .iload_n 2, 1, []), (13, .iconst 1, 1, []), (14, .iadd, 1, []), (15, .istore_n 3, 1, []), (16, .iload_n 3, 1, []), (17, .aload_n 0, 1, []), (18, .getfield 32, 3, [4, 2, 0]), (21, .if_icmp .ge 21, 3, [24]), (24, .aload_n 0, 1, []), (25, .iload_n 2, 1, []), (26, .iload_n 3, 1, []), (27, .invokevirtual 88, 3, [46, 2, 4]), (30, .ifCond .eq 6, 3, [22]), (33, .iinc 1 1, 3, []), (36, .iinc 3 1, 3, []), (39, .goto (-23), 3, [12]), (42, .iinc 2 1, 3, []), (45, .goto (-41), 3, [4]), (48, .iload_n 1, 1, []), (49, .ireturn, 1, [0])]
def jm_p_X4_firstPact : List jm_E := [(0, .iconst 0, 1, []), (1, .istore_n 1, 1, []), (2, .iload_n 1, 1, []), (3, .aload_n 0, 1, []), (4, .getfield 32, 3, [4, 2, 0]), (7, .if_icmp .ge 43, 3, [29]), (10, .iload_n 1, 1, []), (11, .iconst 1, 1, []), (12, .iadd, 1, []), (13, .istore_n 2, 1, []), (14, .iload_n 2, 1, []), (15, .aload_n 0, 1, []), (16, .getfield 32, 3, [4, 2, 0]), (19, .if_icmp .ge 25, 3, [27]), (22, .aload_n 0, 1, []), (23, .iload_n 1, 1, []), (24, .iload_n 2, 1, []), (25, .invokevirtual 88, 3, [46, 2, 4]), (28, .ifCond .eq 10, 3, [25]), (31, .bipush 10, 2, []), (33, .iload_n 1, 1, []), (34, .imul, 1, []), (35, .iload_n 2, 1, []), (36, .iadd, 1, []), (37, .ireturn, 1, [0]), (38, .iinc 2 1, 3, []), (41, .goto (-27), 3, [10]), (44, .iinc 1 1, 3, []), (47, .goto (-45), 3, [2]), (50, .ldc 92, 2, [-1000000]), (52, .ireturn, 1, [0])]
def jm_p_X4_lyingInAll : List jm_E := [(0, .iconst 0, 1, []), (1, .istore_n 1, 1, []), (2, .iconst 0, 1, []), (3, .istore_n 2, 1, []), (4, .iload_n 2, 1, []), (5, .aload_n 0, 1, []), (6, .getfield 32, 3, [4, 2, 0]), (9, .if_icmp .ge 21, 3, [18]), (12, .iload_n 1, 1, []), (13, .aload_n 0, 1, []), (14, .getfield 11, 3, [4, 4, 2]), (17, .iload_n 2, 1, []), (18, .aaload, 1, []), (19, .invokevirtual 93, 3, [52, 0, 5]), (22, .iadd, 1, []), (23, .istore_n 1, 1, []), (24, .iinc 2 1, 3, []), (27, .goto (-23), 3, [4]), (30, .iload_n 1, 1, []), (31, .ireturn, 1, [0])]
def jm_p_X4_comings : List jm_E := [(0, .iconst 0, 1, []), (1, .istore_n 1, 1, []), (2, .iconst 0, 1, []), (3, .istore_n 2, 1, []), (4, .iload_n 2, 1, []), (5, .aload_n 0, 1, []), (6, .getfield 35, 3, [4, 3, 0]), (9, .if_icmp .ge 21, 3, [18]), (12, .iload_n 1, 1, []), (13, .aload_n 0, 1, []), (14, .getfield 19, 3, [4, 5, 2]), (17, .iload_n 2, 1, []), (18, .aaload, 1, []), (19, .getfield 41, 3, [1, 4, 0]), (22, .iadd, 1, []), (23, .istore_n 1, 1, []), (24, .iinc 2 1, 3, []), (27, .goto (-23), 3, [4]), (30, .iload_n 1, 1, []), (31, .ireturn, 1, [0])]
def jm_p_X5_init : List jm_E := [(0, .aload_n 0, 1, []), (1, .invokespecial 3, 3, []), (4, .aload_n 0, 1, []), (5, .bipush 6, 2, []), (7, .newarray .int, 2, [0]), (9, .putfield 9, 3, [5, 1, 2]), (12, .return_, 1, [])]
def jm_p_X5_lying : List jm_E := [(0, .iconst 0, 1, []), (1, .istore_n 1, 1, []), (2, .iconst 0, 1, []), (3, .istore_n 2, 1, []), (4, .iload_n 2, 1, []), (5, .bipush 6, 2, []), (7, .if_icmp .ge 18, 3, [16]), (10, .iload_n 1, 1, []), (11, .aload_n 0, 1, []), (12, .getfield 9, 3, [5, 1, 2]), (15, .iload_n 2, 1, []), (16, .iaload, 1, []), (17, .iadd, 1, []), (18, .istore_n 1, 1, []), (19, .iinc 2 1, 3, []), (22, .goto (-18), 3, [4]), (25, .iload_n 1, 1, []), (26, .ireturn, 1, [0])]
def jm_p_X5_master : List jm_E := [(0, .iconst 0, 1, []), (1, .istore_n 1, 1, []), (2, .iconst 1, 1, []), (3, .istore_n 2, 1, []), (4, .iload_n 2, 1, []), (5, .bipush 6, 2, []), (7, .if_icmp .ge 26, 3, [20]), (10, .aload_n 0, 1, []), (11, .getfield 9, 3, [5, 1, 2]), (14, .iload_n 2, 1, []), (15, .iaload, 1, []), (16, .aload_n 0, 1, []), (17, .getfield 9, 3, [5, 1, 2]), (20, .iload_n 1, 1, []), (21, .iaload, 1, []), (22, .if_icmp .le 5, 3, [18]), (25, .iload_n 2, 1, []), (26, .istore_n 1, 1, []), (27, .iinc 2 1, 3, []), (30, .goto (-26), 3, [4]), (33, .aload_n 0, 1, []), (34, .getfield 9, 3, [5, 1, 2]), (37, .iload_n 1, 1, []), (38, .iaload, 1, []), (39, .ifCond .le 7, 3, [27]), (42, .iload_n 1, 1, []), (43, .goto 5, 3, [28]), (46, .ldc 15, 2, [-1000000]), (48, .ireturn, 1, [0])]
def jm_p_X5_empty : List jm_E := [(0, .iconst 0, 1, []), (1, .istore_n 1, 1, []), (2, .iload_n 1, 1, []), (3, .bipush 6, 2, []), (5, .if_icmp .ge 16, 3, [12]), (8, .aload_n 0, 1, []), (9, .getfield 9, 3, [5, 1, 2]), (12, .iload_n 1, 1, []), (13, .iconst 0, 1, []), (14, .iastore, 1, []), (15, .iinc 1 1, 3, []), (18, .goto (-16), 3, [2]), (21, .return_, 1, [])]
def jm_p_X5_takeOver : List jm_E := [(0, .aload_n 0, 1, []), (1, .aload_n 1, 1, []), (2, .getfield 16, 3, [5, 0, 0]), (5, .putfield 16, 3, [5, 0, 0]), (8, .aload_n 1, 1, []), (9, .getfield 9, 3, [5, 1, 2]), (12, .iconst 0, 1, []), (13, .aload_n 0, 1, []), (14, .getfield 9, 3, [5, 1, 2]), (17, .iconst 0, 1, []), (18, .bipush 6, 2, []), (20, .invokestatic 20, 3, []), (23, .return_, 1, [])]
def jm_p_X6_init : List jm_E := [(0, .aload_n 0, 1, []), (1, .invokespecial 3, 3, []), (4, .aload_n 0, 1, []), (5, .bipush 100, 2, []), (7, .newarray .int, 2, [0]), (9, .putfield 11, 3, [6, 0, 2]), (12, .return_, 1, [])]
def jm_p_X6_isFull : List jm_E := [(0, .aload_n 0, 1, []), (1, .getfield 15, 3, [6, 1, 0]), (4, .bipush 100, 2, []), (6, .if_icmp .lt 7, 3, [6]), (9, .iconst 1, 1, []), (10, .goto 4, 3, [7]), (13, .iconst 0, 1, []), (14, .ireturn, 1, [1])]
def jm_p_X6_size : List jm_E := [(0, .aload_n 0, 1, []), (1, .getfield 15, 3, [6, 1, 0]), (4, .ireturn, 1, [0])]
def jm_p_X6_append : List jm_E := [(0, .aload_n 0, 1, []), (1, .getfield 15, 3, [6, 1, 0]), (4, .bipush 100, 2, []), (6, .if_icmp .ge 23, 3, [16]), (9, .aload_n 0, 1, []), (10, .getfield 11, 3, [6, 0, 2]), (13, .aload_n 0, 1, []), (14, .getfield 15, 3, [6, 1, 0]), (17, .iload_n 1, 1, []), (18, .iastore, 1, []), (19, .aload_n 0, 1, []), (20, .dup, 1, []), (21, .getfield 15, 3, [6, 1, 0]), (24, .iconst 1, 1, []), (25, .iadd, 1, []), (26, .putfield 15, 3, [6, 1, 0]), (29, .aload_n 0, 1, []), (30, .getfield 15, 3, [6, 1, 0]), (33, .ireturn, 1, [0])]
def jm_p_X6_place : List jm_E := [(0, .aload_n 0, 1, []), (1, .getfield 19, 3, [6, 2, 0]), (4, .ireturn, 1, [0])]
def jm_p_X6_readInto : List jm_E := [(0, .aload_n 0, 1, []), (1, .iconst 0, 1, []), (2, .putfield 19, 3, [6, 2, 0]), (5, .aload_n 0, 1, []), (6, .iconst 0, 1, []), (7, .putfield 22, 3, [6, 3, 0]), (10, .aload_n 1, 1, []), (11, .invokevirtual 25, 3, [38, 0, 4]), (14, .aload_n 0, 1, []), (15, .aload_n 1, 1, []), (16, .invokevirtual 30, 3, [62, 1, 6]), (19, .ifCond .eq 17, 3, [20]), (22, .aload_n 0, 1, []), (23, .aload_n 1, 1, []), (24, .invokevirtual 34, 3, [63, 1, 6]), (27, .ifCond .eq 9, 3, [20]), (30, .aload_n 0, 1, []), (31, .aload_n 1, 1, []), (32, .invokevirtual 37, 3, [64, 1, 6]), (35, .pop, 1, []), (36, .aload_n 0, 1, []), (37, .iconst 0, 1, []), (38, .putfield 15, 3, [6, 1, 0]), (41, .aload_n 0, 1, []), (42, .getfield 22, 3, [6, 3, 0]), (45, .ireturn, 1, [0])]
def jm_p_X6_readLaw : List jm_E := [(0, .aload_n 0, 1, []), (1, .bipush 100, 2, []), (3, .invokevirtual 40, 3, [69, 1, 6]), (6, .ifCond .ne 5, 3, [6]), (9, .iconst 0, 1, []), (10, .ireturn, 1, [1]), (11, .aload_n 1, 1, []), (12, .aload_n 0, 1, []), (13, .iconst 1, 1, []), (14, .bipush 60, 2, []), (16, .invokevirtual 44, 3, [70, 2, 6]), (19, .putfield 48, 3, [4, 0, 0]), (22, .aload_n 1, 1, []), (23, .getfield 48, 3, [4, 0, 0]), (26, .iconst (-1), 1, []), (27, .if_icmp .eq 12, 3, [20]), (30, .aload_n 0, 1, []), (31, .bipush 44, 2, []), (33, .invokevirtual 40, 3, [69, 1, 6]), (36, .ifCond .ne 5, 3, [22]), (39, .iconst 0, 1, []), (40, .ireturn, 1, [1]), (41, .aload_n 1, 1, []), (42, .aload_n 0, 1, []), (43, .iconst 1, 1, []), (44, .bipush 9, 2, []), (46, .invokevirtual 44, 3, [70, 2, 6]), (49, .putfield 51, 3, [4, 1, 0]), (52, .aload_n 1, 1, []), (53, .getfield 51, 3, [4, 1, 0]), (56, .iconst (-1), 1, []), (57, .if_icmp .eq 16, 3, [38]), (60, .aload_n 0, 1, []), (61, .bipush 59, 2, []), (63, .invokevirtual 40, 3, [69, 1, 6]), (66, .ifCond .eq 7, 3, [38]), (69, .iconst 1, 1, []), (70, .goto 4, 3, [39]), (73, .iconst 0, 1, []), (74, .ireturn, 1, [1])]
def jm_p_X6_readMats : List jm_E := [(0, .aload_n 0, 1, []), (1, .invokevirtual 54, 3, [67, 0, 6]), (4, .bipush 109, 2, []), (6, .if_icmp .ne 17, 3, [12]), (9, .aload_n 1, 1, []), (10, .getfield 58, 3, [4, 2, 0]), (13, .iconst 4, 1, []), (14, .if_icmp .lt 9, 3, [12]), (17, .aload_n 0, 1, []), (18, .iconst 3, 1, []), (19, .invokevirtual 61, 3, [68, 1, 6]), (22, .ireturn, 1, [1]), (23, .aload_n 0, 1, []), (24, .bipush 109, 2, []), (26, .invokevirtual 40, 3, [69, 1, 6]), (29, .ifCond .ne 5, 3, [18]), (32, .iconst 0, 1, []), (33, .ireturn, 1, [1]), (34, .aload_n 0, 1, []), (35, .iconst 0, 1, []), (36, .iconst 5, 1, []), (37, .invokevirtual 44, 3, [70, 2, 6]), (40, .istore_n 2, 1, []), (41, .iload_n 2, 1, []), (42, .iconst (-1), 1, []), (43, .if_icmp .eq 12, 3, [30]), (46, .aload_n 0, 1, []), (47, .bipush 59, 2, []), (49, .invokevirtual 40, 3, [69, 1, 6]), (52, .ifCond .ne 5, 3, [32]), (55, .iconst 0, 1, []), (56, .ireturn, 1, [1]), (57, .aload_n 1, 1, []), (58, .getfield 64, 3, [4, 4, 2]), (61, .aload_n 1, 1, []), (62, .getfield 58, 3, [4, 2, 0]), (65, .aaload, 1, []), (66, .iload_n 2, 1, []), (67, .putfield 68, 3, [5, 0, 0]), (70, .aload_n 1, 1, []), (71, .dup, 1, []), (72, .getfield 58, 3, [4, 2, 0]), (75, .iconst 1, 1, []), (76, .iadd, 1, []), (77, .putfield 58, 3, [4, 2, 0]), (80, .aload_n 1, 1, []), (81, .getfield 58, 3, [4, 2, 0]), (84, .iconst 4, 1, []), (85, .if_icmp .gt 12, 3, [53]), (88, .aload_n 0, 1, []), (89, .invokevirtual 54, 3, [67, 0, 6]), (92, .bipush 109, 2, []), (94, .if_icmp .eq (-94), 3, [0]), (97, .iconst 1, 1, []), (98, .ireturn, 1, [1])]
def jm_p_X6_readComers : List jm_E := [(0, .aload_n 0, 1, []), (1, .getfield 19, 3, [6, 2, 0]), (4, .aload_n 0, 1, []), (5, .getfield 15, 3, [6, 1, 0]), (8, .if_icmp .ge 85, 3, [52]), (11, .aload_n 0, 1, []), (12, .invokevirtual 54, 3, [67, 0, 6]), (15, .invokestatic 73, 3, [66, 1]), (18, .istore_n 2, 1, []), (19, .iload_n 2, 1, []), (20, .iconst (-1), 1, []), (21, .if_icmp .ne 9, 3, [16]), (24, .aload_n 0, 1, []), (25, .iconst 1, 1, []), (26, .invokevirtual 61, 3, [68, 1, 6]), (29, .ireturn, 1, [1]), (30, .aload_n 1, 1, []), (31, .getfield 77, 3, [4, 3, 0]), (34, .bipush 6, 2, []), (36, .if_icmp .lt 9, 3, [24]), (39, .aload_n 0, 1, []), (40, .iconst 3, 1, []), (41, .invokevirtual 61, 3, [68, 1, 6]), (44, .ireturn, 1, [1]), (45, .aload_n 0, 1, []), (46, .dup, 1, []), (47, .getfield 19, 3, [6, 2, 0]), (50, .iconst 1, 1, []), (51, .iadd, 1, []), (52, .putfield 19, 3, [6, 2, 0]), (55, .aload_n 1, 1, []), (56, .getfield 80, 3, [4, 5, 2]), (59, .aload_n 1, 1, []), (60, .getfield 77, 3, [4, 3, 0]), (63, .aaload, 1, []), (64, .astore_n 3, 1, []), (65, .aload_n 3, 1, []), (66, .iload_n 2, 1, []), (67, .putfield 84, 3, [1, 0, 0]), (70, .aload_n 0, 1, []), (71, .aload_n 3, 1, []), (72, .invokevirtual 89, 3, [65, 1, 6]), (75, .ifCond .ne 5, 3, [45]), (78, .iconst 0, 1, []), (79, .ireturn, 1, [1]), (80, .aload_n 1, 1, []), (81, .dup, 1, []), (82, .getfield 77, 3, [4, 3, 0]), (85, .iconst 1, 1, []), (86, .iadd, 1, []), (87, .putfield 77, 3, [4, 3, 0]), (90, .goto (-90), 3, [0]), (93, .iconst 1, 1, []), (94, .ireturn, 1, [1])]
def jm_p_X6_readTraits : List jm_E := [(0, .aload_n 1, 1, []), (1, .aload_n 0, 1, []), (2, .iconst 0, 1, []), (3, .bipush 30, 2, []), (5, .invokevirtual 44, 3, [70, 2, 6]), (8, .putfield 93, 3, [1, 1, 0]), (11, .aload_n 1, 1, []), (12, .getfield 93, 3, [1, 1, 0]), (15, .iconst (-1), 1, []), (16, .if_icmp .eq 12, 3, [14]), (19, .aload_n 0, 1, []), (20, .bipush 44, 2, []), (22, .invokevirtual 40, 3, [69, 1, 6]), (25, .ifCond .ne 5, 3, [16]), (28, .iconst 0, 1, []), (29, .ireturn, 1, [1]), (30, .aload_n 1, 1, []), (31, .aload_n 0, 1, []), (32, .iconst 0, 1, []), (33, .iconst 5, 1, []), (34, .invokevirtual 44, 3, [70, 2, 6]), (37, .putfield 96, 3, [1, 2, 0]), (40, .aload_n 1, 1, []), (41, .getfield 96, 3, [1, 2, 0]), (44, .iconst (-1), 1, []), (45, .if_icmp .eq 12, 3, [30]), (48, .aload_n 0, 1, []), (49, .bipush 44, 2, []), (51, .invokevirtual 40, 3, [69, 1, 6]), (54, .ifCond .ne 5, 3, [32]), (57, .iconst 0, 1, []), (58, .ireturn, 1, [1]), (59, .aload_n 1, 1, []), (60, .aload_n 0, 1, []), (61, .iconst 1, 1, []), (62, .bipush 9, 2, []), (64, .invokevirtual 44, 3, [70, 2, 6]), (67, .putfield 99, 3, [1, 3, 0]), (70, .aload_n 1, 1, []), (71, .getfield 99, 3, [1, 3, 0]), (74, .iconst (-1), 1, []), (75, .if_icmp .eq 16, 3, [48]), (78, .aload_n 0, 1, []), (79, .bipush 59, 2, []), (81, .invokevirtual 40, 3, [69, 1, 6]), (84, .ifCond .eq 7, 3, [48]), (87, .iconst 1, 1, []), (88, .goto 4, 3, [49]), (91, .iconst 0, 1, []), (92, .ireturn, 1, [1])]
def jm_p_X6_sortOf : List jm_E := [(0, .iload_n 0, 1, []), (1, .lookupswitch 61 #[(101, 59), (103, 53), (115, 57), (116, 55), (119, 51)], 51, [101, 10, 103, 4, 115, 8, 116, 6, 119, 2, 12]), (52, .iconst 1, 1, []), (53, .ireturn, 1, [0]), (54, .iconst 2, 1, []), (55, .ireturn, 1, [0]), (56, .iconst 3, 1, []), (57, .ireturn, 1, [0]), (58, .iconst 4, 1, []), (59, .ireturn, 1, [0]), (60, .iconst 5, 1, []), (61, .ireturn, 1, [0]), (62, .iconst (-1), 1, []), (63, .ireturn, 1, [0])]
def jm_p_X6_seen : List jm_E := [(0, .aload_n 0, 1, []), (1, .getfield 19, 3, [6, 2, 0]), (4, .aload_n 0, 1, []), (5, .getfield 15, 3, [6, 1, 0]), (8, .if_icmp .ge 15, 3, [11]), (11, .aload_n 0, 1, []), (12, .getfield 11, 3, [6, 0, 2]), (15, .aload_n 0, 1, []), (16, .getfield 19, 3, [6, 2, 0]), (19, .iaload, 1, []), (20, .goto 4, 3, [12]), (23, .iconst (-1), 1, []), (24, .ireturn, 1, [0])]
def jm_p_X6_refuse : List jm_E := [(0, .aload_n 0, 1, []), (1, .iload_n 1, 1, []), (2, .putfield 22, 3, [6, 3, 0]), (5, .iconst 0, 1, []), (6, .ireturn, 1, [1])]
def jm_p_X6_takeByte : List jm_E := [(0, .aload_n 0, 1, []), (1, .invokevirtual 54, 3, [67, 0, 6]), (4, .iload_n 1, 1, []), (5, .if_icmp .eq 9, 3, [8]), (8, .aload_n 0, 1, []), (9, .iconst 1, 1, []), (10, .invokevirtual 61, 3, [68, 1, 6]), (13, .ireturn, 1, [1]), (14, .aload_n 0, 1, []), (15, .dup, 1, []), (16, .getfield 19, 3, [6, 2, 0]), (19, .iconst 1, 1, []), (20, .iadd, 1, []), (21, .putfield 19, 3, [6, 2, 0]), (24, .iconst 1, 1, []), (25, .ireturn, 1, [1])]
def jm_p_X6_takeNumber : List jm_E := [(0, .aload_n 0, 1, []), (1, .getfield 19, 3, [6, 2, 0]), (4, .istore_n 3, 1, []), (5, .iconst 0, 1, []), (6, .istore 4, 2, []), (8, .iload_n 3, 1, []), (9, .aload_n 0, 1, []), (10, .getfield 15, 3, [6, 1, 0]), (13, .if_icmp .ge 48, 3, [34]), (16, .iload_n 3, 1, []), (17, .aload_n 0, 1, []), (18, .getfield 19, 3, [6, 2, 0]), (21, .iconst 3, 1, []), (22, .iadd, 1, []), (23, .if_icmp .ge 38, 3, [34]), (26, .aload_n 0, 1, []), (27, .getfield 11, 3, [6, 0, 2]), (30, .iload_n 3, 1, []), (31, .iaload, 1, []), (32, .invokestatic 102, 3, [71, 1]), (35, .ifCond .eq 26, 3, [34]), (38, .iload 4, 2, []), (40, .bipush 10, 2, []), (42, .imul, 1, []), (43, .aload_n 0, 1, []), (44, .getfield 11, 3, [6, 0, 2]), (47, .iload_n 3, 1, []), (48, .iaload, 1, []), (49, .iadd, 1, []), (50, .bipush 48, 2, []), (52, .isub, 1, []), (53, .istore 4, 2, []), (55, .iinc 3 1, 3, []), (58, .goto (-50), 3, [5]), (61, .iload_n 3, 1, []), (62, .aload_n 0, 1, []), (63, .getfield 19, 3, [6, 2, 0]), (66, .if_icmp .eq 13, 3, [44]), (69, .iload_n 3, 1, []), (70, .aload_n 0, 1, []), (71, .getfield 19, 3, [6, 2, 0]), (74, .iconst 3, 1, []), (75, .iadd, 1, []), (76, .if_icmp .ne 10, 3, [49]), (79, .aload_n 0, 1, []), (80, .iconst 1, 1, []), (81, .putfield 22, 3, [6, 3, 0]), (84, .iconst (-1), 1, []), (85, .ireturn, 1, [0]), (86, .iload 4, 2, []), (88, .iload_n 1, 1, []), (89, .if_icmp .lt 9, 3, [55]), (92, .iload 4, 2, []), (94, .iload_n 2, 1, []), (95, .if_icmp .le 10, 3, [60]), (98, .aload_n 0, 1, []), (99, .iconst 2, 1, []), (100, .putfield 22, 3, [6, 3, 0]), (103, .iconst (-1), 1, []), (104, .ireturn, 1, [0]), (105, .aload_n 0, 1, []), (106, .iload_n 3, 1, []), (107, .putfield 19, 3, [6, 2, 0]), (110, .iload 4, 2, []), (112, .ireturn, 1, [0])]
def jm_p_X6_isFigure : List jm_E := [(0, .iload_n 0, 1, []), (1, .bipush 48, 2, []), (3, .if_icmp .lt 13, 3, [8]), (6, .iload_n 0, 1, []), (7, .bipush 57, 2, []), (9, .if_icmp .gt 7, 3, [8]), (12, .iconst 1, 1, []), (13, .goto 4, 3, [9]), (16, .iconst 0, 1, []), (17, .ireturn, 1, [1])]
def jm_p_X7_init : List jm_E := [(0, .aload_n 0, 1, []), (1, .invokespecial 1, 3, []), (4, .aload_n 0, 1, []), (5, .sipush 320, 3, []), (8, .newarray .int, 2, [0]), (10, .putfield 9, 3, [7, 0, 2]), (13, .aload_n 0, 1, []), (14, .bipush 8, 2, []), (16, .newarray .int, 2, [0]), (18, .putfield 13, 3, [7, 1, 2]), (21, .aload_n 0, 1, []), (22, .bipush 8, 2, []), (24, .newarray .int, 2, [0]), (26, .putfield 16, 3, [7, 2, 2]), (29, .iconst 0, 1, []), (30, .istore_n 1, 1, []), (31, .iload_n 1, 1, []), (32, .bipush 8, 2, []), (34, .if_icmp .ge 16, 3, [26]), (37, .aload_n 0, 1, []), (38, .getfield 16, 3, [7, 2, 2]), (41, .iload_n 1, 1, []), (42, .iconst (-1), 1, []), (43, .iastore, 1, []), (44, .iinc 1 1, 3, []), (47, .goto (-16), 3, [16]), (50, .return_, 1, [])]
def jm_p_X7_isMissing : List jm_E := [(0, .aload_n 0, 1, []), (1, .getfield 16, 3, [7, 2, 2]), (4, .iload_n 1, 1, []), (5, .iaload, 1, []), (6, .iconst (-1), 1, []), (7, .if_icmp .ne 7, 3, [8]), (10, .iconst 1, 1, []), (11, .goto 4, 3, [9]), (14, .iconst 0, 1, []), (15, .ireturn, 1, [1])]
def jm_p_X7_sameLane : List jm_E := [(0, .aload_n 0, 1, []), (1, .getfield 13, 3, [7, 1, 2]), (4, .iload_n 1, 1, []), (5, .iaload, 1, []), (6, .aload_n 0, 1, []), (7, .getfield 13, 3, [7, 1, 2]), (10, .iload_n 2, 1, []), (11, .iaload, 1, []), (12, .if_icmp .ne 7, 3, [11]), (15, .iconst 1, 1, []), (16, .goto 4, 3, [12]), (19, .iconst 0, 1, []), (20, .ireturn, 1, [1])]
def jm_p_X7_reaches : List jm_E := [(0, .iload_n 2, 1, []), (1, .ifCond .lt 23, 3, [14]), (4, .iload_n 3, 1, []), (5, .ifCond .lt 19, 3, [14]), (8, .iload_n 2, 1, []), (9, .aload_n 0, 1, []), (10, .getfield 16, 3, [7, 2, 2]), (13, .iload_n 1, 1, []), (14, .iaload, 1, []), (15, .iload_n 3, 1, []), (16, .isub, 1, []), (17, .if_icmp .gt 7, 3, [14]), (20, .iconst 1, 1, []), (21, .goto 4, 3, [15]), (24, .iconst 0, 1, []), (25, .ireturn, 1, [1])]
def jm_p_X7_item : List jm_E := [(0, .aload_n 0, 1, []), (1, .getfield 9, 3, [7, 0, 2]), (4, .iload_n 1, 1, []), (5, .bipush 40, 2, []), (7, .imul, 1, []), (8, .iload_n 2, 1, []), (9, .iadd, 1, []), (10, .iaload, 1, []), (11, .ireturn, 1, [0])]
def jm_p_X7_make : List jm_E := [(0, .aload_n 0, 1, []), (1, .getfield 13, 3, [7, 1, 2]), (4, .iload_n 1, 1, []), (5, .iload_n 2, 1, []), (6, .iastore, 1, []), (7, .aload_n 0, 1, []), (8, .getfield 16, 3, [7, 2, 2]), (11, .iload_n 1, 1, []), (12, .iload_n 3, 1, []), (13, .iastore, 1, []), (14, .iconst 0, 1, []), (15, .istore 4, 2, []), (17, .iload 4, 2, []), (19, .bipush 40, 2, []), (21, .if_icmp .ge 22, 3, [26]), (24, .aload_n 0, 1, []), (25, .getfield 9, 3, [7, 0, 2]), (28, .iload_n 1, 1, []), (29, .bipush 40, 2, []), (31, .imul, 1, []), (32, .iload 4, 2, []), (34, .iadd, 1, []), (35, .iconst 0, 1, []), (36, .iastore, 1, []), (37, .iinc 4 1, 3, []), (40, .goto (-23), 3, [12]), (43, .return_, 1, [])]
def jm_p_X7_put : List jm_E := [(0, .iload_n 3, 1, []), (1, .istore 4, 2, []), (3, .aload_n 0, 1, []), (4, .getfield 13, 3, [7, 1, 2]), (7, .iload_n 1, 1, []), (8, .iaload, 1, []), (9, .ifCond .ne 10, 3, [11]), (12, .iload_n 3, 1, []), (13, .i2b, 1, []), (14, .istore 4, 2, []), (16, .goto 17, 3, [20]), (19, .aload_n 0, 1, []), (20, .getfield 13, 3, [7, 1, 2]), (23, .iload_n 1, 1, []), (24, .iaload, 1, []), (25, .iconst 1, 1, []), (26, .if_icmp .ne 7, 3, [20]), (29, .iload_n 3, 1, []), (30, .i2s, 1, []), (31, .istore 4, 2, []), (33, .aload_n 0, 1, []), (34, .getfield 9, 3, [7, 0, 2]), (37, .iload_n 1, 1, []), (38, .bipush 40, 2, []), (40, .imul, 1, []), (41, .iload_n 2, 1, []), (42, .iadd, 1, []), (43, .iload 4, 2, []), (45, .iastore, 1, []), (46, .iload 4, 2, []), (48, .ireturn, 1, [0])]
def jm_p_X7_carryOver : List jm_E := [(0, .aload_n 0, 1, []), (1, .getfield 9, 3, [7, 0, 2]), (4, .iload_n 1, 1, []), (5, .bipush 40, 2, []), (7, .imul, 1, []), (8, .iload_n 2, 1, []), (9, .iadd, 1, []), (10, .aload_n 0, 1, []), (11, .getfield 9, 3, [7, 0, 2]), (14, .iload_n 3, 1, []), (15, .bipush 40, 2, []), (17, .imul, 1, []), (18, .iload 4, 2, []), (20, .iadd, 1, []), (21, .iload 5, 2, []), (23, .invokestatic 19, 3, []), (26, .return_, 1, [])]
def jm_p_X7_remove : List jm_E := [(0, .aload_n 0, 1, []), (1, .getfield 16, 3, [7, 2, 2]), (4, .iload_n 1, 1, []), (5, .iaload, 1, []), (6, .istore_n 2, 1, []), (7, .aload_n 0, 1, []), (8, .getfield 16, 3, [7, 2, 2]), (11, .iload_n 1, 1, []), (12, .iconst (-1), 1, []), (13, .iastore, 1, []), (14, .iload_n 2, 1, []), (15, .ireturn, 1, [0])]
def jm_p_X7_present : List jm_E := [(0, .iconst 0, 1, []), (1, .istore_n 1, 1, []), (2, .iconst 0, 1, []), (3, .istore_n 2, 1, []), (4, .iload_n 2, 1, []), (5, .bipush 8, 2, []), (7, .if_icmp .ge 20, 3, [14]), (10, .aload_n 0, 1, []), (11, .iload_n 2, 1, []), (12, .invokevirtual 25, 3, [73, 1, 7]), (15, .ifCond .ne 6, 3, [12]), (18, .iinc 1 1, 3, []), (21, .iinc 2 1, 3, []), (24, .goto (-20), 3, [4]), (27, .iload_n 1, 1, []), (28, .ireturn, 1, [0])]
def jm_p_X8_init : List jm_E := [(0, .aload_n 0, 1, []), (1, .invokespecial 3, 3, []), (4, .aload_n 0, 1, []), (5, .iconst 4, 1, []), (6, .newarray .int, 2, [0]), (8, .putfield 9, 3, [8, 0, 2]), (11, .aload_n 0, 1, []), (12, .iconst 4, 1, []), (13, .newarray .int, 2, [0]), (15, .putfield 15, 3, [8, 1, 2]), (18, .aload_n 0, 1, []), (19, .iconst 4, 1, []), (20, .newarray .int, 2, [0]), (22, .putfield 18, 3, [8, 2, 2]), (25, .return_, 1, [])]
def jm_p_X8_begin : List jm_E := [(0, .iconst 0, 1, []), (1, .istore_n 2, 1, []), (2, .iload_n 2, 1, []), (3, .iconst 4, 1, []), (4, .if_icmp .ge 38, 3, [26]), (7, .aload_n 0, 1, []), (8, .getfield 9, 3, [8, 0, 2]), (11, .iload_n 2, 1, []), (12, .iload_n 2, 1, []), (13, .iastore, 1, []), (14, .aload_n 0, 1, []), (15, .getfield 15, 3, [8, 1, 2]), (18, .iload_n 2, 1, []), (19, .aload_n 1, 1, []), (20, .getfield 21, 3, [4, 4, 2]), (23, .iload_n 2, 1, []), (24, .aaload, 1, []), (25, .invokevirtual 27, 3, [52, 0, 5]), (28, .iastore, 1, []), (29, .aload_n 0, 1, []), (30, .getfield 18, 3, [8, 2, 2]), (33, .iload_n 2, 1, []), (34, .iconst 0, 1, []), (35, .iastore, 1, []), (36, .iinc 2 1, 3, []), (39, .goto (-37), 3, [2]), (42, .return_, 1, [])]
def jm_p_X8_goOver : List jm_E := [(0, .aload_n 2, 1, []), (1, .getfield 32, 3, [1, 1, 0]), (4, .istore_n 3, 1, []), (5, .iconst 0, 1, []), (6, .istore 4, 2, []), (8, .iload 4, 2, []), (10, .aload_n 1, 1, []), (11, .getfield 38, 3, [4, 2, 0]), (14, .if_icmp .ge 92, 3, [59]), (17, .aload_n 0, 1, []), (18, .getfield 9, 3, [8, 0, 2]), (21, .iload 4, 2, []), (23, .iaload, 1, []), (24, .istore 5, 2, []), (26, .aload_n 2, 1, []), (27, .iload 4, 2, []), (29, .aload_n 1, 1, []), (30, .getfield 21, 3, [4, 4, 2]), (33, .iload 5, 2, []), (35, .aaload, 1, []), (36, .getfield 41, 3, [5, 0, 0]), (39, .iload_n 3, 1, []), (40, .invokevirtual 44, 3, [8, 3, 1]), (43, .istore 6, 2, []), (45, .aload_n 0, 1, []), (46, .getfield 18, 3, [8, 2, 2]), (49, .iload 5, 2, []), (51, .iload 6, 2, []), (53, .iload_n 3, 1, []), (54, .aload_n 1, 1, []), (55, .getfield 48, 3, [4, 0, 0]), (58, .aload_n 0, 1, []), (59, .getfield 15, 3, [8, 1, 2]), (62, .iload 5, 2, []), (64, .iaload, 1, []), (65, .isub, 1, []), (66, .invokestatic 51, 3, [0]), (69, .invokestatic 51, 3, [0]), (72, .iastore, 1, []), (73, .aload_n 0, 1, []), (74, .getfield 15, 3, [8, 1, 2]), (77, .iload 5, 2, []), (79, .dup2, 1, []), (80, .iaload, 1, []), (81, .aload_n 0, 1, []), (82, .getfield 18, 3, [8, 2, 2]), (85, .iload 5, 2, []), (87, .iaload, 1, []), (88, .iadd, 1, []), (89, .iastore, 1, []), (90, .iload_n 3, 1, []), (91, .aload_n 0, 1, []), (92, .getfield 18, 3, [8, 2, 2]), (95, .iload 5, 2, []), (97, .iaload, 1, []), (98, .isub, 1, []), (99, .istore_n 3, 1, []), (100, .iinc 4 1, 3, []), (103, .goto (-95), 3, [5]), (106, .iload_n 3, 1, []), (107, .ireturn, 1, [0])]
def jm_p_X8_allGoOver : List jm_E := [(0, .iconst 0, 1, []), (1, .istore_n 3, 1, []), (2, .iconst 0, 1, []), (3, .istore 4, 2, []), (5, .iload 4, 2, []), (7, .aload_n 1, 1, []), (8, .getfield 57, 3, [4, 3, 0]), (11, .if_icmp .ge 34, 3, [27]), (14, .iload_n 2, 1, []), (15, .iload 4, 2, []), (17, .ishr, 1, []), (18, .iconst 1, 1, []), (19, .iand, 1, []), (20, .iconst 1, 1, []), (21, .if_icmp .ne 18, 3, [25]), (24, .iload_n 3, 1, []), (25, .aload_n 0, 1, []), (26, .aload_n 1, 1, []), (27, .aload_n 1, 1, []), (28, .getfield 60, 3, [4, 5, 2]), (31, .iload 4, 2, []), (33, .aaload, 1, []), (34, .invokevirtual 64, 3, [84, 2, 8]), (37, .iadd, 1, []), (38, .istore_n 3, 1, []), (39, .iinc 4 1, 3, []), (42, .goto (-37), 3, [4]), (45, .iload_n 3, 1, []), (46, .ireturn, 1, [0])]
def jm_p_X8_lyingInAll : List jm_E := [(0, .iconst 0, 1, []), (1, .istore_n 2, 1, []), (2, .iconst 0, 1, []), (3, .istore_n 3, 1, []), (4, .iload_n 3, 1, []), (5, .aload_n 1, 1, []), (6, .getfield 38, 3, [4, 2, 0]), (9, .if_icmp .ge 18, 3, [17]), (12, .iload_n 2, 1, []), (13, .aload_n 0, 1, []), (14, .getfield 15, 3, [8, 1, 2]), (17, .iload_n 3, 1, []), (18, .iaload, 1, []), (19, .iadd, 1, []), (20, .istore_n 2, 1, []), (21, .iinc 3 1, 3, []), (24, .goto (-20), 3, [4]), (27, .iload_n 2, 1, []), (28, .ireturn, 1, [0])]
def jm_p_X9_init : List jm_E := [(0, .aload_n 0, 1, []), (1, .invokespecial 1, 3, []), (4, .aload_n 0, 1, []), (5, .new 7, 3, [7, 3]), (8, .dup, 1, []), (9, .invokespecial 9, 3, [72, 3, 336]), (12, .putfield 10, 3, [9, 0, 2]), (15, .aload_n 0, 1, []), (16, .new 16, 3, [6, 4]), (19, .dup, 1, []), (20, .invokespecial 18, 3, [56, 1, 100]), (23, .putfield 19, 3, [9, 1, 2]), (26, .aload_n 0, 1, []), (27, .new 23, 3, [4, 6]), (30, .dup, 1, []), (31, .invokespecial 25, 3, [37, 16, 72]), (34, .putfield 26, 3, [9, 2, 2]), (37, .aload_n 0, 1, []), (38, .new 23, 3, [4, 6]), (41, .dup, 1, []), (42, .invokespecial 25, 3, [37, 16, 72]), (45, .putfield 30, 3, [9, 3, 2]), (48, .aload_n 0, 1, []), (49, .iconst 2, 1, []), (50, .anewarray 23, 3, [4]), (53, .putfield 33, 3, [9, 4, 2]), (56, .aload_n 0, 1, []), (57, .iconst 2, 1, []), (58, .newarray .boolean, 2, [1]), (60, .putfield 37, 3, [9, 5, 2]), (63, .aload_n 0, 1, []), (64, .new 41, 3, [3, 3]), (67, .dup, 1, []), (68, .invokespecial 43, 3, [31, 1, 960]), (71, .putfield 44, 3, [9, 6, 2]), (74, .aload_n 0, 1, []), (75, .new 48, 3, [8, 3]), (78, .dup, 1, []), (79, .invokespecial 50, 3, [82, 3, 12]), (82, .putfield 51, 3, [9, 7, 2]), (85, .aload_n 0, 1, []), (86, .new 55, 3, [2, 6]), (89, .dup, 1, []), (90, .invokespecial 57, 3, [10, 8, 56]), (93, .putfield 58, 3, [9, 8, 2]), (96, .aload_n 0, 1, []), (97, .new 62, 3, [0, 2]), (100, .dup, 1, []), (101, .invokespecial 64, 3, [0, 1, 16]), (104, .putfield 65, 3, [9, 9, 2]), (107, .iconst 0, 1, []), (108, .istore_n 1, 1, []), (109, .iload_n 1, 1, []), (110, .iconst 2, 1, []), (111, .if_icmp .ge 22, 3, [64]), (114, .aload_n 0, 1, []), (115, .getfield 33, 3, [9, 4, 2]), (118, .iload_n 1, 1, []), (119, .new 23, 3, [4, 6]), (122, .dup, 1, []), (123, .invokespecial 25, 3, [37, 16, 72]), (126, .aastore, 1, []), (127, .iinc 1 1, 3, []), (130, .goto (-21), 3, [52]), (133, .return_, 1, [])]
def jm_p_X9_row : List jm_E := [(0, .iload_n 1, 1, []), (1, .invokestatic 69, 3, [124, 1]), (4, .ifCond .ne 18, 3, [11]), (7, .iload_n 2, 1, []), (8, .ifCond .lt 14, 3, [11]), (11, .iload_n 2, 1, []), (12, .iconst 3, 1, []), (13, .if_icmp .ge 9, 3, [11]), (16, .iload_n 3, 1, []), (17, .bipush 40, 2, []), (19, .if_icmp .le 6, 3, [13]), (22, .ldc 73, 2, [-1000001]), (24, .ireturn, 1, [0]), (25, .iload_n 3, 1, []), (26, .ifCond .ge 9, 3, [19]), (29, .aload_n 0, 1, []), (30, .iconst 4, 1, []), (31, .invokevirtual 74, 3, [131, 1, 9]), (34, .ireturn, 1, [0]), (35, .aload_n 0, 1, []), (36, .getfield 10, 3, [9, 0, 2]), (39, .iload_n 1, 1, []), (40, .iload_n 2, 1, []), (41, .iload_n 3, 1, []), (42, .invokevirtual 78, 3, [77, 3, 7]), (45, .aload_n 0, 1, []), (46, .iload_n 3, 1, []), (47, .invokevirtual 82, 3, [132, 1, 9]), (50, .ireturn, 1, [0])]
def jm_p_X9_set : List jm_E := [(0, .iload_n 1, 1, []), (1, .invokestatic 69, 3, [124, 1]), (4, .ifCond .eq 6, 3, [5]), (7, .ldc 73, 2, [-1000001]), (9, .ireturn, 1, [0]), (10, .aload_n 0, 1, []), (11, .getfield 10, 3, [9, 0, 2]), (14, .iload_n 1, 1, []), (15, .invokevirtual 85, 3, [73, 1, 7]), (18, .ifCond .eq 9, 3, [14]), (21, .aload_n 0, 1, []), (22, .iconst 1, 1, []), (23, .invokevirtual 74, 3, [131, 1, 9]), (26, .ireturn, 1, [0]), (27, .aload_n 0, 1, []), (28, .getfield 10, 3, [9, 0, 2]), (31, .iload_n 1, 1, []), (32, .iload_n 2, 1, []), (33, .iconst 1, 1, []), (34, .invokevirtual 88, 3, [75, 3, 7]), (37, .ifCond .ne 9, 3, [25]), (40, .aload_n 0, 1, []), (41, .iconst 2, 1, []), (42, .invokevirtual 74, 3, [131, 1, 9]), (45, .ireturn, 1, [0]), (46, .aload_n 0, 1, []), (47, .aload_n 0, 1, []), (48, .getfield 10, 3, [9, 0, 2]), (51, .iload_n 1, 1, []), (52, .iload_n 2, 1, []), (53, .iload_n 3, 1, []), (54, .invokevirtual 92, 3, [78, 3, 7]), (57, .invokevirtual 82, 3, [132, 1, 9]), (60, .ireturn, 1, [0])]
def jm_p_X9_copy : List jm_E := [(0, .iload_n 1, 1, []), (1, .invokestatic 69, 3, [124, 1]), (4, .ifCond .ne 10, 3, [6]), (7, .iload_n 3, 1, []), (8, .invokestatic 69, 3, [124, 1]), (11, .ifCond .eq 6, 3, [8]), (14, .ldc 73, 2, [-1000001]), (16, .ireturn, 1, [0]), (17, .aload_n 0, 1, []), (18, .getfield 10, 3, [9, 0, 2]), (21, .iload_n 1, 1, []), (22, .invokevirtual 85, 3, [73, 1, 7]), (25, .ifCond .ne 14, 3, [18]), (28, .aload_n 0, 1, []), (29, .getfield 10, 3, [9, 0, 2]), (32, .iload_n 3, 1, []), (33, .invokevirtual 85, 3, [73, 1, 7]), (36, .ifCond .eq 9, 3, [22]), (39, .aload_n 0, 1, []), (40, .iconst 1, 1, []), (41, .invokevirtual 74, 3, [131, 1, 9]), (44, .ireturn, 1, [0]), (45, .aload_n 0, 1, []), (46, .getfield 10, 3, [9, 0, 2]), (49, .iload_n 1, 1, []), (50, .iload_n 3, 1, []), (51, .invokevirtual 96, 3, [74, 2, 7]), (54, .ifCond .ne 9, 3, [32]), (57, .aload_n 0, 1, []), (58, .iconst 5, 1, []), (59, .invokevirtual 74, 3, [131, 1, 9]), (62, .ireturn, 1, [0]), (63, .aload_n 0, 1, []), (64, .getfield 10, 3, [9, 0, 2]), (67, .iload_n 1, 1, []), (68, .iload_n 2, 1, []), (69, .iload 5, 2, []), (71, .invokevirtual 88, 3, [75, 3, 7]), (74, .ifCond .eq 18, 3, [46]), (77, .aload_n 0, 1, []), (78, .getfield 10, 3, [9, 0, 2]), (81, .iload_n 3, 1, []), (82, .iload 4, 2, []), (84, .iload 5, 2, []), (86, .invokevirtual 88, 3, [75, 3, 7]), (89, .ifCond .ne 9, 3, [50]), (92, .aload_n 0, 1, []), (93, .iconst 2, 1, []), (94, .invokevirtual 74, 3, [131, 1, 9]), (97, .ireturn, 1, [0]), (98, .aload_n 0, 1, []), (99, .getfield 10, 3, [9, 0, 2]), (102, .iload_n 1, 1, []), (103, .iload_n 2, 1, []), (104, .iload_n 3, 1, []), (105, .iload 4, 2, []), (107, .iload 5, 2, []), (109, .invokevirtual 100, 3, [79, 5, 7]), (112, .aload_n 0, 1, []), (113, .iload 5, 2, []), (115, .invokevirtual 82, 3, [132, 1, 9]), (118, .ireturn, 1, [0])]
def jm_p_X9_drop : List jm_E := [(0, .iload_n 1, 1, []), (1, .invokestatic 69, 3, [124, 1]), (4, .ifCond .eq 6, 3, [5]), (7, .ldc 73, 2, [-1000001]), (9, .ireturn, 1, [0]), (10, .aload_n 0, 1, []), (11, .getfield 10, 3, [9, 0, 2]), (14, .iload_n 1, 1, []), (15, .invokevirtual 85, 3, [73, 1, 7]), (18, .ifCond .eq 9, 3, [14]), (21, .aload_n 0, 1, []), (22, .iconst 1, 1, []), (23, .invokevirtual 74, 3, [131, 1, 9]), (26, .ireturn, 1, [0]), (27, .aload_n 0, 1, []), (28, .aload_n 0, 1, []), (29, .getfield 10, 3, [9, 0, 2]), (32, .iload_n 1, 1, []), (33, .invokevirtual 104, 3, [80, 1, 7]), (36, .invokevirtual 82, 3, [132, 1, 9]), (39, .ireturn, 1, [0])]
def jm_p_X9_feed : List jm_E := [(0, .iload_n 1, 1, []), (1, .ifCond .lt 10, 3, [5]), (4, .iload_n 1, 1, []), (5, .sipush 255, 3, []), (8, .if_icmp .le 6, 3, [7]), (11, .ldc 73, 2, [-1000001]), (13, .ireturn, 1, [0]), (14, .aload_n 0, 1, []), (15, .getfield 19, 3, [9, 1, 2]), (18, .invokevirtual 107, 3, [57, 0, 6]), (21, .ifCond .eq 6, 3, [13]), (24, .ldc 111, 2, [-1000003]), (26, .ireturn, 1, [0]), (27, .aload_n 0, 1, []), (28, .getfield 19, 3, [9, 1, 2]), (31, .iload_n 1, 1, []), (32, .invokevirtual 112, 3, [59, 1, 6]), (35, .ireturn, 1, [0])]
def jm_p_X9_hotel : List jm_E := [(0, .aload_n 0, 1, []), (1, .getfield 19, 3, [9, 1, 2]), (4, .aload_n 0, 1, []), (5, .getfield 30, 3, [9, 3, 2]), (8, .invokevirtual 115, 3, [61, 1, 6]), (11, .istore_n 1, 1, []), (12, .iload_n 1, 1, []), (13, .ifCond .eq 19, 3, [17]), (16, .aload_n 0, 1, []), (17, .iload_n 1, 1, []), (18, .putfield 119, 3, [9, 10, 0]), (21, .ldc 123, 2, [-1000100]), (23, .aload_n 0, 1, []), (24, .getfield 19, 3, [9, 1, 2]), (27, .invokevirtual 124, 3, [60, 0, 6]), (30, .isub, 1, []), (31, .ireturn, 1, [0]), (32, .aload_n 0, 1, []), (33, .getfield 26, 3, [9, 2, 2]), (36, .aload_n 0, 1, []), (37, .getfield 30, 3, [9, 3, 2]), (40, .invokevirtual 128, 3, [39, 1, 4]), (43, .aload_n 0, 1, []), (44, .getfield 44, 3, [9, 6, 2]), (47, .invokevirtual 132, 3, [34, 0, 3]), (50, .aload_n 0, 1, []), (51, .getfield 26, 3, [9, 2, 2]), (54, .getfield 135, 3, [4, 3, 0]), (57, .ireturn, 1, [0])]
def jm_p_X9_fault : List jm_E := [(0, .aload_n 0, 1, []), (1, .getfield 119, 3, [9, 10, 0]), (4, .ireturn, 1, [0])]
def jm_p_X9_come : List jm_E := [(0, .aload_n 0, 1, []), (1, .iload_n 1, 1, []), (2, .invokevirtual 138, 3, [129, 1, 9]), (5, .ifCond .eq 6, 3, [6]), (8, .ldc 73, 2, [-1000001]), (10, .ireturn, 1, [0]), (11, .aload_n 0, 1, []), (12, .getfield 26, 3, [9, 2, 2]), (15, .getfield 141, 3, [4, 5, 2]), (18, .iload_n 1, 1, []), (19, .aaload, 1, []), (20, .getfield 145, 3, [1, 4, 0]), (23, .sipush 999, 3, []), (26, .if_icmp .lt 6, 3, [16]), (29, .ldc 111, 2, [-1000003]), (31, .ireturn, 1, [0]), (32, .aload_n 0, 1, []), (33, .getfield 44, 3, [9, 6, 2]), (36, .aload_n 0, 1, []), (37, .getfield 26, 3, [9, 2, 2]), (40, .invokevirtual 150, 3, [35, 1, 3]), (43, .aload_n 0, 1, []), (44, .getfield 26, 3, [9, 2, 2]), (47, .aload_n 0, 1, []), (48, .getfield 26, 3, [9, 2, 2]), (51, .getfield 141, 3, [4, 5, 2]), (54, .iload_n 1, 1, []), (55, .aaload, 1, []), (56, .aload_n 0, 1, []), (57, .getfield 51, 3, [9, 7, 2]), (60, .invokevirtual 153, 3, [43, 2, 4]), (63, .ireturn, 1, [0])]
def jm_p_X9_beat : List jm_E := [(0, .aload_n 0, 1, []), (1, .iload_n 1, 1, []), (2, .invokevirtual 157, 3, [130, 1, 9]), (5, .ifCond .eq 6, 3, [6]), (8, .ldc 73, 2, [-1000001]), (10, .ireturn, 1, [0]), (11, .aload_n 0, 1, []), (12, .getfield 44, 3, [9, 6, 2]), (15, .aload_n 0, 1, []), (16, .getfield 26, 3, [9, 2, 2]), (19, .invokevirtual 150, 3, [35, 1, 3]), (22, .aload_n 0, 1, []), (23, .getfield 26, 3, [9, 2, 2]), (26, .getfield 160, 3, [4, 4, 2]), (29, .iload_n 1, 1, []), (30, .aaload, 1, []), (31, .invokevirtual 164, 3, [52, 0, 5]), (34, .istore_n 2, 1, []), (35, .aload_n 0, 1, []), (36, .getfield 26, 3, [9, 2, 2]), (39, .getfield 160, 3, [4, 4, 2]), (42, .iload_n 1, 1, []), (43, .aaload, 1, []), (44, .invokevirtual 169, 3, [54, 0, 5]), (47, .iload_n 2, 1, []), (48, .ireturn, 1, [0])]
def jm_p_X9_change : List jm_E := [(0, .aload_n 0, 1, []), (1, .iload_n 1, 1, []), (2, .invokevirtual 157, 3, [130, 1, 9]), (5, .ifCond .ne 13, 3, [10]), (8, .aload_n 0, 1, []), (9, .iload_n 1, 1, []), (10, .iconst 1, 1, []), (11, .iadd, 1, []), (12, .invokevirtual 157, 3, [130, 1, 9]), (15, .ifCond .eq 6, 3, [12]), (18, .ldc 73, 2, [-1000001]), (20, .ireturn, 1, [0]), (21, .aload_n 0, 1, []), (22, .getfield 44, 3, [9, 6, 2]), (25, .aload_n 0, 1, []), (26, .getfield 26, 3, [9, 2, 2]), (29, .invokevirtual 150, 3, [35, 1, 3]), (32, .aload_n 0, 1, []), (33, .getfield 26, 3, [9, 2, 2]), (36, .iload_n 1, 1, []), (37, .invokevirtual 172, 3, [44, 1, 4]), (40, .aload_n 0, 1, []), (41, .getfield 26, 3, [9, 2, 2]), (44, .getfield 160, 3, [4, 4, 2]), (47, .iload_n 1, 1, []), (48, .aaload, 1, []), (49, .getfield 176, 3, [5, 0, 0]), (52, .ireturn, 1, [0])]
def jm_p_X9_rain : List jm_E := [(0, .aload_n 0, 1, []), (1, .invokevirtual 179, 3, [128, 0, 9]), (4, .ifCond .eq 6, 3, [5]), (7, .ldc 182, 2, [-1000002]), (9, .ireturn, 1, [0]), (10, .iload_n 1, 1, []), (11, .iconst 1, 1, []), (12, .if_icmp .lt 9, 3, [11]), (15, .iload_n 1, 1, []), (16, .bipush 20, 2, []), (18, .if_icmp .le 6, 3, [13]), (21, .ldc 73, 2, [-1000001]), (23, .ireturn, 1, [0]), (24, .aload_n 0, 1, []), (25, .getfield 44, 3, [9, 6, 2]), (28, .aload_n 0, 1, []), (29, .getfield 26, 3, [9, 2, 2]), (32, .invokevirtual 150, 3, [35, 1, 3]), (35, .aload_n 0, 1, []), (36, .getfield 26, 3, [9, 2, 2]), (39, .iload_n 1, 1, []), (40, .invokevirtual 183, 3, [45, 1, 4]), (43, .ireturn, 1, [0])]
def jm_p_X9_undo : List jm_E := [(0, .aload_n 0, 1, []), (1, .getfield 44, 3, [9, 6, 2]), (4, .invokevirtual 186, 3, [32, 0, 3]), (7, .ifCond .eq 6, 3, [6]), (10, .ldc 182, 2, [-1000002]), (12, .ireturn, 1, [0]), (13, .aload_n 0, 1, []), (14, .getfield 44, 3, [9, 6, 2]), (17, .aload_n 0, 1, []), (18, .getfield 26, 3, [9, 2, 2]), (21, .invokevirtual 189, 3, [36, 1, 3]), (24, .ireturn, 1, [0])]
def jm_p_X9_comer : List jm_E := [(0, .aload_n 0, 1, []), (1, .iload_n 1, 1, []), (2, .invokevirtual 138, 3, [129, 1, 9]), (5, .ifCond .eq 6, 3, [6]), (8, .ldc 73, 2, [-1000001]), (10, .ireturn, 1, [0]), (11, .aload_n 0, 1, []), (12, .getfield 26, 3, [9, 2, 2]), (15, .getfield 141, 3, [4, 5, 2]), (18, .iload_n 1, 1, []), (19, .aaload, 1, []), (20, .astore_n 3, 1, []), (21, .iload_n 2, 1, []), (22, .tableswitch 50 0 3 #[30, 35, 40, 45], 30, [0, 14, 1, 17, 2, 20, 3, 23, 26]), (52, .aload_n 3, 1, []), (53, .getfield 192, 3, [1, 1, 0]), (56, .ireturn, 1, [0]), (57, .aload_n 3, 1, []), (58, .getfield 195, 3, [1, 2, 0]), (61, .ireturn, 1, [0]), (62, .aload_n 3, 1, []), (63, .getfield 198, 3, [1, 3, 0]), (66, .ireturn, 1, [0]), (67, .aload_n 3, 1, []), (68, .getfield 145, 3, [1, 4, 0]), (71, .ireturn, 1, [0]), (72, .ldc 73, 2, [-1000001]), (74, .ireturn, 1, [0])]
def jm_p_X9_mat : List jm_E := [(0, .aload_n 0, 1, []), (1, .iload_n 1, 1, []), (2, .invokevirtual 157, 3, [130, 1, 9]), (5, .ifCond .eq 6, 3, [6]), (8, .ldc 73, 2, [-1000001]), (10, .ireturn, 1, [0]), (11, .aload_n 0, 1, []), (12, .getfield 26, 3, [9, 2, 2]), (15, .getfield 160, 3, [4, 4, 2]), (18, .iload_n 1, 1, []), (19, .aaload, 1, []), (20, .astore_n 3, 1, []), (21, .iload_n 2, 1, []), (22, .tableswitch 58 0 3 #[30, 35, 40, 53], 30, [0, 14, 1, 17, 2, 20, 3, 27, 30]), (52, .aload_n 3, 1, []), (53, .getfield 176, 3, [5, 0, 0]), (56, .ireturn, 1, [0]), (57, .aload_n 3, 1, []), (58, .invokevirtual 164, 3, [52, 0, 5]), (61, .ireturn, 1, [0]), (62, .aload_n 0, 1, []), (63, .getfield 26, 3, [9, 2, 2]), (66, .getfield 201, 3, [4, 0, 0]), (69, .aload_n 3, 1, []), (70, .invokevirtual 164, 3, [52, 0, 5]), (73, .isub, 1, []), (74, .ireturn, 1, [0]), (75, .aload_n 3, 1, []), (76, .invokevirtual 204, 3, [53, 0, 5]), (79, .ireturn, 1, [0]), (80, .ldc 73, 2, [-1000001]), (82, .ireturn, 1, [0])]
def jm_p_X9_soil : List jm_E := [(0, .aload_n 0, 1, []), (1, .iload_n 1, 1, []), (2, .invokevirtual 157, 3, [130, 1, 9]), (5, .ifCond .ne 13, 3, [9]), (8, .iload_n 2, 1, []), (9, .ifCond .lt 9, 3, [9]), (12, .iload_n 2, 1, []), (13, .bipush 6, 2, []), (15, .if_icmp .lt 6, 3, [11]), (18, .ldc 73, 2, [-1000001]), (20, .ireturn, 1, [0]), (21, .aload_n 0, 1, []), (22, .getfield 26, 3, [9, 2, 2]), (25, .getfield 160, 3, [4, 4, 2]), (28, .iload_n 1, 1, []), (29, .aaload, 1, []), (30, .getfield 207, 3, [5, 1, 2]), (33, .iload_n 2, 1, []), (34, .iaload, 1, []), (35, .ireturn, 1, [0])]
def jm_p_X9_atOne : List jm_E := [(0, .aload_n 0, 1, []), (1, .iload_n 1, 1, []), (2, .invokevirtual 157, 3, [130, 1, 9]), (5, .ifCond .ne 11, 3, [8]), (8, .aload_n 0, 1, []), (9, .iload_n 2, 1, []), (10, .invokevirtual 157, 3, [130, 1, 9]), (13, .ifCond .eq 6, 3, [10]), (16, .ldc 73, 2, [-1000001]), (18, .ireturn, 1, [0]), (19, .iload_n 1, 1, []), (20, .iload_n 2, 1, []), (21, .if_icmp .eq 19, 3, [21]), (24, .aload_n 0, 1, []), (25, .getfield 26, 3, [9, 2, 2]), (28, .iload_n 1, 1, []), (29, .iload_n 2, 1, []), (30, .invokevirtual 210, 3, [46, 2, 4]), (33, .ifCond .eq 7, 3, [21]), (36, .iconst 1, 1, []), (37, .goto 4, 3, [22]), (40, .iconst 0, 1, []), (41, .ireturn, 1, [0])]
def jm_p_X9_leaves : List jm_E := [(0, .aload_n 0, 1, []), (1, .iload_n 1, 1, []), (2, .invokevirtual 138, 3, [129, 1, 9]), (5, .ifCond .ne 11, 3, [8]), (8, .aload_n 0, 1, []), (9, .iload_n 2, 1, []), (10, .invokevirtual 157, 3, [130, 1, 9]), (13, .ifCond .eq 6, 3, [10]), (16, .ldc 73, 2, [-1000001]), (18, .ireturn, 1, [0]), (19, .aload_n 0, 1, []), (20, .getfield 51, 3, [9, 7, 2]), (23, .aload_n 0, 1, []), (24, .getfield 26, 3, [9, 2, 2]), (27, .invokevirtual 213, 3, [83, 1, 8]), (30, .aload_n 0, 1, []), (31, .getfield 51, 3, [9, 7, 2]), (34, .aload_n 0, 1, []), (35, .getfield 26, 3, [9, 2, 2]), (38, .aload_n 0, 1, []), (39, .getfield 26, 3, [9, 2, 2]), (42, .getfield 141, 3, [4, 5, 2]), (45, .iload_n 1, 1, []), (46, .aaload, 1, []), (47, .invokevirtual 216, 3, [84, 2, 8]), (50, .pop, 1, []), (51, .aload_n 0, 1, []), (52, .getfield 51, 3, [9, 7, 2]), (55, .getfield 220, 3, [8, 2, 2]), (58, .iload_n 2, 1, []), (59, .iaload, 1, []), (60, .ireturn, 1, [0])]
def jm_p_X9_carries : List jm_E := [(0, .aload_n 0, 1, []), (1, .iload_n 1, 1, []), (2, .invokevirtual 138, 3, [129, 1, 9]), (5, .ifCond .eq 6, 3, [6]), (8, .ldc 73, 2, [-1000001]), (10, .ireturn, 1, [0]), (11, .aload_n 0, 1, []), (12, .getfield 51, 3, [9, 7, 2]), (15, .aload_n 0, 1, []), (16, .getfield 26, 3, [9, 2, 2]), (19, .invokevirtual 213, 3, [83, 1, 8]), (22, .aload_n 0, 1, []), (23, .getfield 51, 3, [9, 7, 2]), (26, .aload_n 0, 1, []), (27, .getfield 26, 3, [9, 2, 2]), (30, .aload_n 0, 1, []), (31, .getfield 26, 3, [9, 2, 2]), (34, .getfield 141, 3, [4, 5, 2]), (37, .iload_n 1, 1, []), (38, .aaload, 1, []), (39, .invokevirtual 216, 3, [84, 2, 8]), (42, .ireturn, 1, [0])]
def jm_p_X9_clean : List jm_E := [(0, .aload_n 0, 1, []), (1, .invokevirtual 179, 3, [128, 0, 9]), (4, .ifCond .eq 8, 3, [5]), (7, .ldc 182, 2, [-1000002]), (9, .goto 14, 3, [10]), (12, .aload_n 0, 1, []), (13, .getfield 58, 3, [9, 8, 2]), (16, .aload_n 0, 1, []), (17, .getfield 26, 3, [9, 2, 2]), (20, .invokevirtual 223, 3, [11, 1, 2]), (23, .ireturn, 1, [0])]
def jm_p_X9_order : List jm_E := [(0, .aload_n 0, 1, []), (1, .invokevirtual 179, 3, [128, 0, 9]), (4, .ifCond .eq 6, 3, [5]), (7, .ldc 182, 2, [-1000002]), (9, .ireturn, 1, [0]), (10, .iload_n 1, 1, []), (11, .iconst (-1), 1, []), (12, .if_icmp .lt 9, 3, [11]), (15, .iload_n 1, 1, []), (16, .bipush 6, 2, []), (18, .if_icmp .lt 6, 3, [13]), (21, .ldc 73, 2, [-1000001]), (23, .ireturn, 1, [0]), (24, .aload_n 0, 1, []), (25, .getfield 58, 3, [9, 8, 2]), (28, .aload_n 0, 1, []), (29, .getfield 26, 3, [9, 2, 2]), (32, .invokevirtual 226, 3, [13, 1, 2]), (35, .aload_n 0, 1, []), (36, .getfield 58, 3, [9, 8, 2]), (39, .iload_n 1, 1, []), (40, .aload_n 0, 1, []), (41, .getfield 26, 3, [9, 2, 2]), (44, .getfield 135, 3, [4, 3, 0]), (47, .invokevirtual 229, 3, [12, 2, 2]), (50, .ireturn, 1, [0])]
def jm_p_X9_laying : List jm_E := [(0, .aload_n 0, 1, []), (1, .invokevirtual 179, 3, [128, 0, 9]), (4, .ifCond .eq 6, 3, [5]), (7, .ldc 182, 2, [-1000002]), (9, .ireturn, 1, [0]), (10, .iload_n 1, 1, []), (11, .iconst (-1), 1, []), (12, .if_icmp .lt 8, 3, [11]), (15, .iload_n 1, 1, []), (16, .iconst 4, 1, []), (17, .if_icmp .lt 6, 3, [13]), (20, .ldc 73, 2, [-1000001]), (22, .ireturn, 1, [0]), (23, .aload_n 0, 1, []), (24, .getfield 58, 3, [9, 8, 2]), (27, .aload_n 0, 1, []), (28, .getfield 26, 3, [9, 2, 2]), (31, .invokevirtual 233, 3, [15, 1, 2]), (34, .aload_n 0, 1, []), (35, .getfield 58, 3, [9, 8, 2]), (38, .iload_n 1, 1, []), (39, .aload_n 0, 1, []), (40, .getfield 26, 3, [9, 2, 2]), (43, .getfield 236, 3, [4, 2, 0]), (46, .invokevirtual 229, 3, [12, 2, 2]), (49, .ireturn, 1, [0])]
def jm_p_X9_beating : List jm_E := [(0, .aload_n 0, 1, []), (1, .invokevirtual 179, 3, [128, 0, 9]), (4, .ifCond .eq 6, 3, [5]), (7, .ldc 182, 2, [-1000002]), (9, .ireturn, 1, [0]), (10, .iload_n 1, 1, []), (11, .ifCond .lt 28, 3, [18]), (14, .iload_n 1, 1, []), (15, .aload_n 0, 1, []), (16, .getfield 26, 3, [9, 2, 2]), (19, .invokevirtual 239, 3, [42, 0, 4]), (22, .if_icmp .gt 17, 3, [18]), (25, .iload_n 2, 1, []), (26, .invokestatic 242, 3, [126, 1]), (29, .ifCond .ne 10, 3, [18]), (32, .iload_n 3, 1, []), (33, .invokestatic 245, 3, [127, 1]), (36, .ifCond .eq 6, 3, [20]), (39, .ldc 73, 2, [-1000001]), (41, .ireturn, 1, [0]), (42, .aload_n 0, 1, []), (43, .getfield 58, 3, [9, 8, 2]), (46, .aload_n 0, 1, []), (47, .getfield 26, 3, [9, 2, 2]), (50, .iload_n 1, 1, []), (51, .iload_n 2, 1, []), (52, .invokevirtual 248, 3, [18, 3, 2]), (55, .istore 4, 2, []), (57, .iload 4, 2, []), (59, .ldc 252, 2, [-1000000]), (61, .if_icmp .eq 8, 3, [34]), (64, .iload_n 3, 1, []), (65, .iconst 1, 1, []), (66, .if_icmp .ne 8, 3, [36]), (69, .iload 4, 2, []), (71, .goto 8, 3, [38]), (74, .iload 4, 2, []), (76, .invokestatic 253, 3, [223, 1]), (79, .ireturn, 1, [0])]
def jm_p_X9_pacts : List jm_E := [(0, .aload_n 0, 1, []), (1, .invokevirtual 179, 3, [128, 0, 9]), (4, .ifCond .eq 6, 3, [5]), (7, .ldc 182, 2, [-1000002]), (9, .ireturn, 1, [0]), (10, .iload_n 1, 1, []), (11, .invokestatic 245, 3, [127, 1]), (14, .ifCond .eq 6, 3, [10]), (17, .ldc 73, 2, [-1000001]), (19, .ireturn, 1, [0]), (20, .iload_n 1, 1, []), (21, .ifCond .ne 13, 3, [16]), (24, .aload_n 0, 1, []), (25, .getfield 26, 3, [9, 2, 2]), (28, .invokevirtual 258, 3, [47, 0, 4]), (31, .goto 10, 3, [19]), (34, .aload_n 0, 1, []), (35, .getfield 26, 3, [9, 2, 2]), (38, .invokevirtual 261, 3, [48, 0, 4]), (41, .ireturn, 1, [0])]
def jm_p_X9_could : List jm_E := [(0, .aload_n 0, 1, []), (1, .iload_n 1, 1, []), (2, .invokevirtual 157, 3, [130, 1, 9]), (5, .ifCond .ne 16, 3, [11]), (8, .aload_n 0, 1, []), (9, .iload_n 2, 1, []), (10, .invokevirtual 157, 3, [130, 1, 9]), (13, .ifCond .ne 8, 3, [11]), (16, .iload_n 1, 1, []), (17, .iload_n 2, 1, []), (18, .if_icmp .ne 6, 3, [13]), (21, .ldc 73, 2, [-1000001]), (23, .ireturn, 1, [0]), (24, .aload_n 0, 1, []), (25, .getfield 58, 3, [9, 8, 2]), (28, .aload_n 0, 1, []), (29, .getfield 26, 3, [9, 2, 2]), (32, .iload_n 1, 1, []), (33, .iload_n 2, 1, []), (34, .invokevirtual 264, 3, [20, 3, 2]), (37, .ireturn, 1, [0])]
def jm_p_X9_who : List jm_E := [(0, .aload_n 0, 1, []), (1, .invokevirtual 179, 3, [128, 0, 9]), (4, .ifCond .eq 6, 3, [5]), (7, .ldc 182, 2, [-1000002]), (9, .ireturn, 1, [0]), (10, .iload_n 1, 1, []), (11, .invokestatic 69, 3, [124, 1]), (14, .ifCond .eq 6, 3, [10]), (17, .ldc 73, 2, [-1000001]), (19, .ireturn, 1, [0]), (20, .aload_n 0, 1, []), (21, .iload_n 1, 1, []), (22, .iload_n 2, 1, []), (23, .invokevirtual 267, 3, [133, 2, 9]), (26, .istore_n 3, 1, []), (27, .iload_n 3, 1, []), (28, .ifCond .eq 9, 3, [21]), (31, .aload_n 0, 1, []), (32, .iload_n 3, 1, []), (33, .invokevirtual 74, 3, [131, 1, 9]), (36, .ireturn, 1, [0]), (37, .aload_n 0, 1, []), (38, .aload_n 0, 1, []), (39, .getfield 58, 3, [9, 8, 2]), (42, .aload_n 0, 1, []), (43, .getfield 26, 3, [9, 2, 2]), (46, .aload_n 0, 1, []), (47, .getfield 10, 3, [9, 0, 2]), (50, .iload_n 1, 1, []), (51, .iload_n 2, 1, []), (52, .invokevirtual 270, 3, [22, 4, 2]), (55, .invokevirtual 82, 3, [132, 1, 9]), (58, .ireturn, 1, [0])]
def jm_p_X9_fits : List jm_E := [(0, .aload_n 0, 1, []), (1, .iload_n 1, 1, []), (2, .invokevirtual 138, 3, [129, 1, 9]), (5, .ifCond .ne 21, 3, [12]), (8, .iload_n 2, 1, []), (9, .invokestatic 69, 3, [124, 1]), (12, .ifCond .ne 14, 3, [12]), (15, .iload 4, 2, []), (17, .ifCond .lt 9, 3, [12]), (20, .iload 4, 2, []), (22, .iconst 4, 1, []), (23, .if_icmp .lt 6, 3, [14]), (26, .ldc 73, 2, [-1000001]), (28, .ireturn, 1, [0]), (29, .aload_n 0, 1, []), (30, .iload_n 2, 1, []), (31, .iload_n 3, 1, []), (32, .invokevirtual 267, 3, [133, 2, 9]), (35, .istore 5, 2, []), (37, .iload 5, 2, []), (39, .ifCond .eq 10, 3, [25]), (42, .aload_n 0, 1, []), (43, .iload 5, 2, []), (45, .invokevirtual 74, 3, [131, 1, 9]), (48, .ireturn, 1, [0]), (49, .aload_n 0, 1, []), (50, .getfield 58, 3, [9, 8, 2]), (53, .aload_n 0, 1, []), (54, .getfield 26, 3, [9, 2, 2]), (57, .getfield 141, 3, [4, 5, 2]), (60, .iload_n 1, 1, []), (61, .aaload, 1, []), (62, .invokevirtual 274, 3, [23, 1, 2]), (65, .aload_n 0, 1, []), (66, .aload_n 0, 1, []), (67, .getfield 58, 3, [9, 8, 2]), (70, .aload_n 0, 1, []), (71, .getfield 26, 3, [9, 2, 2]), (74, .iload 4, 2, []), (76, .aload_n 0, 1, []), (77, .getfield 10, 3, [9, 0, 2]), (80, .iload_n 2, 1, []), (81, .iload_n 3, 1, []), (82, .invokevirtual 278, 3, [24, 5, 2]), (85, .invokevirtual 82, 3, [132, 1, 9]), (88, .ireturn, 1, [0])]
def jm_p_X9_absent : List jm_E := [(0, .aload_n 0, 1, []), (1, .invokevirtual 179, 3, [128, 0, 9]), (4, .ifCond .eq 6, 3, [5]), (7, .ldc 182, 2, [-1000002]), (9, .ireturn, 1, [0]), (10, .iload_n 1, 1, []), (11, .invokestatic 242, 3, [126, 1]), (14, .ifCond .ne 20, 3, [16]), (17, .iload_n 2, 1, []), (18, .ifCond .lt 16, 3, [16]), (21, .iload_n 2, 1, []), (22, .bipush 10, 2, []), (24, .if_icmp .gt 10, 3, [16]), (27, .iload_n 3, 1, []), (28, .invokestatic 245, 3, [127, 1]), (31, .ifCond .eq 6, 3, [18]), (34, .ldc 73, 2, [-1000001]), (36, .ireturn, 1, [0]), (37, .aload_n 0, 1, []), (38, .getfield 58, 3, [9, 8, 2]), (41, .aload_n 0, 1, []), (42, .getfield 26, 3, [9, 2, 2]), (45, .iload_n 1, 1, []), (46, .iload_n 2, 1, []), (47, .iload_n 3, 1, []), (48, .ifCond .ne 7, 3, [28]), (51, .iconst 1, 1, []), (52, .goto 4, 3, [29]), (55, .iconst 0, 1, []), (56, .invokevirtual 282, 3, [27, 4, 2]), (59, .ireturn, 1, [0])]
def jm_p_X9_drawn : List jm_E := [(0, .aload_n 0, 1, []), (1, .invokevirtual 179, 3, [128, 0, 9]), (4, .ifCond .eq 6, 3, [5]), (7, .ldc 182, 2, [-1000002]), (9, .ireturn, 1, [0]), (10, .iload_n 1, 1, []), (11, .ifCond .lt 28, 3, [19]), (14, .iload_n 1, 1, []), (15, .bipush 60, 2, []), (17, .if_icmp .gt 22, 3, [19]), (20, .iload_n 2, 1, []), (21, .iconst 1, 1, []), (22, .if_icmp .lt 17, 3, [19]), (25, .iload_n 2, 1, []), (26, .ldc_w 286, 3, [999999]), (29, .if_icmp .gt 10, 3, [19]), (32, .iload_n 3, 1, []), (33, .invokestatic 245, 3, [127, 1]), (36, .ifCond .eq 6, 3, [21]), (39, .ldc 73, 2, [-1000001]), (41, .ireturn, 1, [0]), (42, .aload_n 0, 1, []), (43, .getfield 58, 3, [9, 8, 2]), (46, .aload_n 0, 1, []), (47, .getfield 26, 3, [9, 2, 2]), (50, .iload_n 1, 1, []), (51, .iload_n 2, 1, []), (52, .iload_n 3, 1, []), (53, .ifCond .ne 7, 3, [31]), (56, .iconst 1, 1, []), (57, .goto 4, 3, [32]), (60, .iconst 0, 1, []), (61, .invokevirtual 287, 3, [30, 4, 2]), (64, .ireturn, 1, [0])]
def jm_p_X9_image : List jm_E := [(0, .iload_n 1, 1, []), (1, .invokestatic 290, 3, [125, 1]), (4, .ifCond .eq 6, 3, [5]), (7, .ldc 73, 2, [-1000001]), (9, .ireturn, 1, [0]), (10, .aload_n 0, 1, []), (11, .invokevirtual 179, 3, [128, 0, 9]), (14, .ifCond .eq 6, 3, [10]), (17, .ldc 182, 2, [-1000002]), (19, .ireturn, 1, [0]), (20, .aload_n 0, 1, []), (21, .getfield 33, 3, [9, 4, 2]), (24, .iload_n 1, 1, []), (25, .aaload, 1, []), (26, .aload_n 0, 1, []), (27, .getfield 26, 3, [9, 2, 2]), (30, .invokevirtual 128, 3, [39, 1, 4]), (33, .aload_n 0, 1, []), (34, .getfield 37, 3, [9, 5, 2]), (37, .iload_n 1, 1, []), (38, .iconst 1, 1, []), (39, .bastore, 1, []), (40, .iconst 1, 1, []), (41, .ireturn, 1, [0])]
def jm_p_X9_restore : List jm_E := [(0, .iload_n 1, 1, []), (1, .invokestatic 290, 3, [125, 1]), (4, .ifCond .eq 6, 3, [5]), (7, .ldc 73, 2, [-1000001]), (9, .ireturn, 1, [0]), (10, .aload_n 0, 1, []), (11, .getfield 37, 3, [9, 5, 2]), (14, .iload_n 1, 1, []), (15, .baload, 1, []), (16, .ifCond .ne 6, 3, [12]), (19, .ldc 182, 2, [-1000002]), (21, .ireturn, 1, [0]), (22, .aload_n 0, 1, []), (23, .getfield 26, 3, [9, 2, 2]), (26, .aload_n 0, 1, []), (27, .getfield 33, 3, [9, 4, 2]), (30, .iload_n 1, 1, []), (31, .aaload, 1, []), (32, .invokevirtual 128, 3, [39, 1, 4]), (35, .aload_n 0, 1, []), (36, .getfield 44, 3, [9, 6, 2]), (39, .invokevirtual 132, 3, [34, 0, 3]), (42, .iconst 1, 1, []), (43, .ireturn, 1, [0])]
def jm_p_X9_kind : List jm_E := [(0, .aload_n 0, 1, []), (1, .iload_n 1, 1, []), (2, .invokevirtual 138, 3, [129, 1, 9]), (5, .ifCond .eq 8, 3, [6]), (8, .ldc 73, 2, [-1000001]), (10, .goto 15, 3, [12]), (13, .aload_n 0, 1, []), (14, .getfield 26, 3, [9, 2, 2]), (17, .getfield 141, 3, [4, 5, 2]), (20, .iload_n 1, 1, []), (21, .aaload, 1, []), (22, .getfield 293, 3, [1, 0, 0]), (25, .ireturn, 1, [0])]
def jm_p_X9_as : List jm_E := [(0, .aload_n 0, 1, []), (1, .iload_n 1, 1, []), (2, .invokevirtual 138, 3, [129, 1, 9]), (5, .ifCond .ne 13, 3, [9]), (8, .iload_n 2, 1, []), (9, .ifCond .lt 9, 3, [9]), (12, .iload_n 2, 1, []), (13, .bipush 6, 2, []), (15, .if_icmp .lt 6, 3, [11]), (18, .ldc 73, 2, [-1000001]), (20, .ireturn, 1, [0]), (21, .aload_n 0, 1, []), (22, .getfield 26, 3, [9, 2, 2]), (25, .getfield 141, 3, [4, 5, 2]), (28, .iload_n 1, 1, []), (29, .aaload, 1, []), (30, .iload_n 2, 1, []), (31, .invokevirtual 296, 3, [9, 1, 1]), (34, .ifCond .ne 9, 3, [23]), (37, .aload_n 0, 1, []), (38, .iconst 3, 1, []), (39, .invokevirtual 74, 3, [131, 1, 9]), (42, .ireturn, 1, [0]), (43, .aload_n 0, 1, []), (44, .iload_n 1, 1, []), (45, .invokevirtual 82, 3, [132, 1, 9]), (48, .ireturn, 1, [0])]
def jm_p_X9_ask : List jm_E := [(0, .aload_n 0, 1, []), (1, .iload_n 1, 1, []), (2, .invokevirtual 138, 3, [129, 1, 9]), (5, .ifCond .ne 10, 3, [7]), (8, .iload_n 2, 1, []), (9, .invokestatic 245, 3, [127, 1]), (12, .ifCond .eq 6, 3, [9]), (15, .ldc 73, 2, [-1000001]), (17, .ireturn, 1, [0]), (18, .aload_n 0, 1, []), (19, .getfield 65, 3, [9, 9, 2]), (22, .aload_n 0, 1, []), (23, .getfield 26, 3, [9, 2, 2]), (26, .getfield 141, 3, [4, 5, 2]), (29, .iload_n 1, 1, []), (30, .aaload, 1, []), (31, .iload_n 1, 1, []), (32, .iload_n 2, 1, []), (33, .invokevirtual 299, 3, [1, 3, 0]), (36, .ireturn, 1, [0])]
def jm_p_X9_trace : List jm_E := [(0, .aload_n 0, 1, []), (1, .getfield 65, 3, [9, 9, 2]), (4, .iload_n 1, 1, []), (5, .invokevirtual 303, 3, [2, 1, 0]), (8, .ireturn, 1, [0])]
def jm_p_X9_count : List jm_E := [(0, .iload_n 1, 1, []), (1, .tableswitch 111 0 7 #[47, 55, 63, 71, 79, 87, 95, 103], 47, [0, 2, 1, 6, 2, 10, 3, 14, 4, 18, 5, 22, 6, 26, 7, 30, 34]), (48, .aload_n 0, 1, []), (49, .getfield 10, 3, [9, 0, 2]), (52, .invokevirtual 306, 3, [81, 0, 7]), (55, .ireturn, 1, [0]), (56, .aload_n 0, 1, []), (57, .getfield 26, 3, [9, 2, 2]), (60, .getfield 236, 3, [4, 2, 0]), (63, .ireturn, 1, [0]), (64, .aload_n 0, 1, []), (65, .getfield 26, 3, [9, 2, 2]), (68, .getfield 135, 3, [4, 3, 0]), (71, .ireturn, 1, [0]), (72, .aload_n 0, 1, []), (73, .getfield 26, 3, [9, 2, 2]), (76, .getfield 201, 3, [4, 0, 0]), (79, .ireturn, 1, [0]), (80, .aload_n 0, 1, []), (81, .getfield 26, 3, [9, 2, 2]), (84, .invokevirtual 309, 3, [49, 0, 4]), (87, .ireturn, 1, [0]), (88, .aload_n 0, 1, []), (89, .getfield 26, 3, [9, 2, 2]), (92, .invokevirtual 312, 3, [50, 0, 4]), (95, .ireturn, 1, [0]), (96, .aload_n 0, 1, []), (97, .getfield 44, 3, [9, 6, 2]), (100, .invokevirtual 315, 3, [33, 0, 3]), (103, .ireturn, 1, [0]), (104, .aload_n 0, 1, []), (105, .getfield 19, 3, [9, 1, 2]), (108, .invokevirtual 318, 3, [58, 0, 6]), (111, .ireturn, 1, [0]), (112, .ldc 73, 2, [-1000001]), (114, .ireturn, 1, [0])]
def jm_p_X9_status : List jm_E := [(0, .aload_n 0, 1, []), (1, .getfield 319, 3, [9, 11, 0]), (4, .ireturn, 1, [0])]
def jm_p_X9_noRow : List jm_E := [(0, .iload_n 0, 1, []), (1, .ifCond .lt 9, 3, [5]), (4, .iload_n 0, 1, []), (5, .bipush 8, 2, []), (7, .if_icmp .lt 7, 3, [7]), (10, .iconst 1, 1, []), (11, .goto 4, 3, [8]), (14, .iconst 0, 1, []), (15, .ireturn, 1, [1])]
def jm_p_X9_noImage : List jm_E := [(0, .iload_n 0, 1, []), (1, .ifCond .lt 8, 3, [5]), (4, .iload_n 0, 1, []), (5, .iconst 2, 1, []), (6, .if_icmp .lt 7, 3, [7]), (9, .iconst 1, 1, []), (10, .goto 4, 3, [8]), (13, .iconst 0, 1, []), (14, .ireturn, 1, [1])]
def jm_p_X9_noCarried : List jm_E := [(0, .iload_n 0, 1, []), (1, .ifCond .lt 10, 3, [5]), (4, .iload_n 0, 1, []), (5, .sipush 200, 3, []), (8, .if_icmp .le 7, 3, [7]), (11, .iconst 1, 1, []), (12, .goto 4, 3, [8]), (15, .iconst 0, 1, []), (16, .ireturn, 1, [1])]
def jm_p_X9_neither : List jm_E := [(0, .iload_n 0, 1, []), (1, .ifCond .eq 12, 3, [7]), (4, .iload_n 0, 1, []), (5, .iconst 1, 1, []), (6, .if_icmp .eq 7, 3, [7]), (9, .iconst 1, 1, []), (10, .goto 4, 3, [8]), (13, .iconst 0, 1, []), (14, .ireturn, 1, [1])]
def jm_p_X9_noHotel : List jm_E := [(0, .aload_n 0, 1, []), (1, .getfield 26, 3, [9, 2, 2]), (4, .getfield 236, 3, [4, 2, 0]), (7, .ifCond .ne 7, 3, [6]), (10, .iconst 1, 1, []), (11, .goto 4, 3, [7]), (14, .iconst 0, 1, []), (15, .ireturn, 1, [1])]
def jm_p_X9_noComer : List jm_E := [(0, .iload_n 1, 1, []), (1, .ifCond .lt 14, 3, [7]), (4, .iload_n 1, 1, []), (5, .aload_n 0, 1, []), (6, .getfield 26, 3, [9, 2, 2]), (9, .getfield 135, 3, [4, 3, 0]), (12, .if_icmp .lt 7, 3, [9]), (15, .iconst 1, 1, []), (16, .goto 4, 3, [10]), (19, .iconst 0, 1, []), (20, .ireturn, 1, [1])]
def jm_p_X9_noMat : List jm_E := [(0, .iload_n 1, 1, []), (1, .ifCond .lt 14, 3, [7]), (4, .iload_n 1, 1, []), (5, .aload_n 0, 1, []), (6, .getfield 26, 3, [9, 2, 2]), (9, .getfield 236, 3, [4, 2, 0]), (12, .if_icmp .lt 7, 3, [9]), (15, .iconst 1, 1, []), (16, .goto 4, 3, [10]), (19, .iconst 0, 1, []), (20, .ireturn, 1, [1])]
def jm_p_X9_found : List jm_E := [(0, .aload_n 0, 1, []), (1, .iload_n 1, 1, []), (2, .putfield 319, 3, [9, 11, 0]), (5, .ldc_w 322, 3, [-1000010]), (8, .iload_n 1, 1, []), (9, .isub, 1, []), (10, .ireturn, 1, [0])]
def jm_p_X9_unfound : List jm_E := [(0, .aload_n 0, 1, []), (1, .iconst 0, 1, []), (2, .putfield 319, 3, [9, 11, 0]), (5, .iload_n 1, 1, []), (6, .ireturn, 1, [0])]
def jm_p_X9_matRowFinding : List jm_E := [(0, .aload_n 0, 1, []), (1, .getfield 10, 3, [9, 0, 2]), (4, .iload_n 1, 1, []), (5, .invokevirtual 85, 3, [73, 1, 7]), (8, .ifCond .eq 5, 3, [7]), (11, .iconst 1, 1, []), (12, .ireturn, 1, [0]), (13, .aload_n 0, 1, []), (14, .getfield 10, 3, [9, 0, 2]), (17, .iload_n 1, 1, []), (18, .iload_n 2, 1, []), (19, .aload_n 0, 1, []), (20, .getfield 26, 3, [9, 2, 2]), (23, .getfield 236, 3, [4, 2, 0]), (26, .invokevirtual 88, 3, [75, 3, 7]), (29, .ifCond .eq 7, 3, [18]), (32, .iconst 0, 1, []), (33, .goto 4, 3, [19]), (36, .iconst 2, 1, []), (37, .ireturn, 1, [0])]
def jm_p_X10_init : List jm_E := [(0, .aload_n 0, 1, []), (1, .invokespecial 1, 3, []), (4, .aload_n 0, 1, []), (5, .sipush 1736, 3, []), (8, .newarray .int, 2, [0]), (10, .putfield 7, 3, [10, 0, 2]), (13, .aload_n 0, 1, []), (14, .iconst 2, 1, []), (15, .newarray .boolean, 2, [1]), (17, .putfield 13, 3, [10, 3, 2]), (20, .aload_n 0, 1, []), (21, .bipush 8, 2, []), (23, .newarray .int, 2, [0]), (25, .putfield 17, 3, [10, 4, 2]), (28, .aload_n 0, 1, []), (29, .bipush 8, 2, []), (31, .newarray .int, 2, [0]), (33, .dup, 1, []), (34, .iconst 0, 1, []), (35, .iconst (-1), 1, []), (36, .iastore, 1, []), (37, .dup, 1, []), (38, .iconst 1, 1, []), (39, .iconst (-1), 1, []), (40, .iastore, 1, []), (41, .dup, 1, []), (42, .iconst 2, 1, []), (43, .iconst (-1), 1, []), (44, .iastore, 1, []), (45, .dup, 1, []), (46, .iconst 3, 1, []), (47, .iconst (-1), 1, []), (48, .iastore, 1, []), (49, .dup, 1, []), (50, .iconst 4, 1, []), (51, .iconst (-1), 1, []), (52, .iastore, 1, []), (53, .dup, 1, []), (54, .iconst 5, 1, []), (55, .iconst (-1), 1, []), (56, .iastore, 1, []), (57, .dup, 1, []), (58, .bipush 6, 2, []), (60, .iconst (-1), 1, []), (61, .iastore, 1, []), (62, .dup, 1, []), (63, .bipush 7, 2, []), (65, .iconst (-1), 1, []), (66, .iastore, 1, []), (67, .putfield 20, 3, [10, 5, 2]), (70, .aload_n 0, 1, []), (71, .sipush 320, 3, []), (74, .newarray .int, 2, [0]), (76, .putfield 23, 3, [10, 6, 2]), (79, .aload_n 0, 1, []), (80, .bipush 100, 2, []), (82, .newarray .int, 2, [0]), (84, .putfield 26, 3, [10, 7, 2]), (87, .aload_n 0, 1, []), (88, .bipush 16, 2, []), (90, .newarray .int, 2, [0]), (92, .putfield 29, 3, [10, 11, 2]), (95, .aload_n 0, 1, []), (96, .bipush 6, 2, []), (98, .newarray .int, 2, [0]), (100, .putfield 32, 3, [10, 16, 2]), (103, .aload_n 0, 1, []), (104, .bipush 6, 2, []), (106, .newarray .int, 2, [0]), (108, .putfield 35, 3, [10, 17, 2]), (111, .return_, 1, [])]
def jm_p_X10_in : List jm_E := [(0, .lload_n 0, 1, []), (1, .lload_n 2, 1, []), (2, .lcmp, 1, []), (3, .ifCond .lt 14, 3, [10]), (6, .lload_n 0, 1, []), (7, .lload 4, 2, []), (9, .lcmp, 1, []), (10, .ifCond .gt 7, 3, [10]), (13, .iconst 1, 1, []), (14, .goto 4, 3, [11]), (17, .iconst 0, 1, []), (18, .ireturn, 1, [1])]
def jm_p_X10_has : List jm_E := [(0, .iload_n 0, 1, []), (1, .iload_n 1, 1, []), (2, .ishr, 1, []), (3, .iconst 1, 1, []), (4, .iand, 1, []), (5, .iconst 1, 1, []), (6, .if_icmp .ne 7, 3, [9]), (9, .iconst 1, 1, []), (10, .goto 4, 3, [10]), (13, .iconst 0, 1, []), (14, .ireturn, 1, [1])]
def jm_p_X10_bits : List jm_E := [(0, .iconst 0, 1, []), (1, .istore_n 1, 1, []), (2, .iconst 0, 1, []), (3, .istore_n 2, 1, []), (4, .iload_n 2, 1, []), (5, .iconst 4, 1, []), (6, .if_icmp .ge 17, 3, [17]), (9, .iload_n 1, 1, []), (10, .iload_n 0, 1, []), (11, .iload_n 2, 1, []), (12, .ishr, 1, []), (13, .iconst 1, 1, []), (14, .iand, 1, []), (15, .iadd, 1, []), (16, .istore_n 1, 1, []), (17, .iinc 2 1, 3, []), (20, .goto (-16), 3, [4]), (23, .iload_n 1, 1, []), (24, .ireturn, 1, [0])]
def jm_p_X10_find : List jm_E := [(0, .aload_n 0, 1, []), (1, .iload_n 1, 1, []), (2, .putfield 38, 3, [10, 10, 0]), (5, .ldc 42, 2, [-1000010]), (7, .iload_n 1, 1, []), (8, .isub, 1, []), (9, .ireturn, 1, [0])]
def jm_p_X10_well : List jm_E := [(0, .aload_n 0, 1, []), (1, .iconst 0, 1, []), (2, .putfield 38, 3, [10, 10, 0]), (5, .iload_n 1, 1, []), (6, .ireturn, 1, [0])]
def jm_p_X10_isRow : List jm_E := [(0, .iload_n 0, 1, []), (1, .i2l, 1, []), (2, .lconst 0, 1, []), (3, .ldc2_w 43, 3, [7]), (6, .invokestatic 45, 3, [135, 3]), (9, .ireturn, 1, [1])]
def jm_p_X10_row : List jm_E := [(0, .iload_n 1, 1, []), (1, .invokestatic 49, 3, [140, 1]), (4, .ifCond .eq 21, 3, [12]), (7, .iload_n 2, 1, []), (8, .i2l, 1, []), (9, .lconst 0, 1, []), (10, .ldc2_w 53, 3, [2]), (13, .invokestatic 45, 3, [135, 3]), (16, .ifCond .eq 9, 3, [12]), (19, .iload_n 3, 1, []), (20, .bipush 40, 2, []), (22, .if_icmp .le 6, 3, [14]), (25, .ldc 55, 2, [-1000001]), (27, .ireturn, 1, [0]), (28, .iload_n 3, 1, []), (29, .ifCond .ge 9, 3, [20]), (32, .aload_n 0, 1, []), (33, .iconst 4, 1, []), (34, .invokevirtual 56, 3, [138, 1, 10]), (37, .ireturn, 1, [0]), (38, .aload_n 0, 1, []), (39, .getfield 17, 3, [10, 4, 2]), (42, .iload_n 1, 1, []), (43, .iload_n 2, 1, []), (44, .iastore, 1, []), (45, .aload_n 0, 1, []), (46, .getfield 20, 3, [10, 5, 2]), (49, .iload_n 1, 1, []), (50, .iload_n 3, 1, []), (51, .iastore, 1, []), (52, .iconst 0, 1, []), (53, .istore 4, 2, []), (55, .iload 4, 2, []), (57, .bipush 40, 2, []), (59, .if_icmp .ge 22, 3, [46]), (62, .aload_n 0, 1, []), (63, .getfield 23, 3, [10, 6, 2]), (66, .bipush 40, 2, []), (68, .iload_n 1, 1, []), (69, .imul, 1, []), (70, .iload 4, 2, []), (72, .iadd, 1, []), (73, .iconst 0, 1, []), (74, .iastore, 1, []), (75, .iinc 4 1, 3, []), (78, .goto (-23), 3, [32]), (81, .aload_n 0, 1, []), (82, .iload_n 3, 1, []), (83, .invokevirtual 60, 3, [139, 1, 10]), (86, .ireturn, 1, [0])]
def jm_p_X10_narrow : List jm_E := [(0, .iload_n 1, 1, []), (1, .ifCond .ne 8, 3, [5]), (4, .iload_n 0, 1, []), (5, .i2b, 1, []), (6, .goto 14, 3, [12]), (9, .iload_n 1, 1, []), (10, .iconst 1, 1, []), (11, .if_icmp .ne 8, 3, [11]), (14, .iload_n 0, 1, []), (15, .i2s, 1, []), (16, .goto 4, 3, [12]), (19, .iload_n 0, 1, []), (20, .ireturn, 1, [0])]
def jm_p_X10_set : List jm_E := [(0, .iload_n 1, 1, []), (1, .invokestatic 49, 3, [140, 1]), (4, .ifCond .ne 6, 3, [5]), (7, .ldc 55, 2, [-1000001]), (9, .ireturn, 1, [0]), (10, .aload_n 0, 1, []), (11, .getfield 20, 3, [10, 5, 2]), (14, .iload_n 1, 1, []), (15, .iaload, 1, []), (16, .ifCond .ge 9, 3, [14]), (19, .aload_n 0, 1, []), (20, .iconst 1, 1, []), (21, .invokevirtual 56, 3, [138, 1, 10]), (24, .ireturn, 1, [0]), (25, .iload_n 2, 1, []), (26, .i2l, 1, []), (27, .lconst 0, 1, []), (28, .aload_n 0, 1, []), (29, .getfield 20, 3, [10, 5, 2]), (32, .iload_n 1, 1, []), (33, .iaload, 1, []), (34, .iconst 1, 1, []), (35, .isub, 1, []), (36, .i2l, 1, []), (37, .invokestatic 45, 3, [135, 3]), (40, .ifCond .ne 9, 3, [30]), (43, .aload_n 0, 1, []), (44, .iconst 2, 1, []), (45, .invokevirtual 56, 3, [138, 1, 10]), (48, .ireturn, 1, [0]), (49, .aload_n 0, 1, []), (50, .getfield 23, 3, [10, 6, 2]), (53, .bipush 40, 2, []), (55, .iload_n 1, 1, []), (56, .imul, 1, []), (57, .iload_n 2, 1, []), (58, .iadd, 1, []), (59, .iload_n 3, 1, []), (60, .aload_n 0, 1, []), (61, .getfield 17, 3, [10, 4, 2]), (64, .iload_n 1, 1, []), (65, .iaload, 1, []), (66, .invokestatic 63, 3, [142, 2]), (69, .iastore, 1, []), (70, .aload_n 0, 1, []), (71, .aload_n 0, 1, []), (72, .getfield 23, 3, [10, 6, 2]), (75, .bipush 40, 2, []), (77, .iload_n 1, 1, []), (78, .imul, 1, []), (79, .iload_n 2, 1, []), (80, .iadd, 1, []), (81, .iaload, 1, []), (82, .invokevirtual 60, 3, [139, 1, 10]), (85, .ireturn, 1, [0])]
def jm_p_X10_isSpan : List jm_E := [(0, .iload_n 2, 1, []), (1, .ifCond .lt 27, 3, [18]), (4, .iload_n 3, 1, []), (5, .ifCond .lt 23, 3, [18]), (8, .iload_n 2, 1, []), (9, .i2l, 1, []), (10, .iload_n 3, 1, []), (11, .i2l, 1, []), (12, .ladd, 1, []), (13, .aload_n 0, 1, []), (14, .getfield 20, 3, [10, 5, 2]), (17, .iload_n 1, 1, []), (18, .iaload, 1, []), (19, .i2l, 1, []), (20, .lcmp, 1, []), (21, .ifCond .gt 7, 3, [18]), (24, .iconst 1, 1, []), (25, .goto 4, 3, [19]), (28, .iconst 0, 1, []), (29, .ireturn, 1, [1])]
def jm_p_X10_copy : List jm_E := [(0, .iload_n 1, 1, []), (1, .invokestatic 49, 3, [140, 1]), (4, .ifCond .eq 10, 3, [6]), (7, .iload_n 3, 1, []), (8, .invokestatic 49, 3, [140, 1]), (11, .ifCond .ne 6, 3, [8]), (14, .ldc 55, 2, [-1000001]), (16, .ireturn, 1, [0]), (17, .aload_n 0, 1, []), (18, .getfield 20, 3, [10, 5, 2]), (21, .iload_n 1, 1, []), (22, .iaload, 1, []), (23, .ifCond .lt 12, 3, [18]), (26, .aload_n 0, 1, []), (27, .getfield 20, 3, [10, 5, 2]), (30, .iload_n 3, 1, []), (31, .iaload, 1, []), (32, .ifCond .ge 9, 3, [22]), (35, .aload_n 0, 1, []), (36, .iconst 1, 1, []), (37, .invokevirtual 56, 3, [138, 1, 10]), (40, .ireturn, 1, [0]), (41, .aload_n 0, 1, []), (42, .getfield 17, 3, [10, 4, 2]), (45, .iload_n 1, 1, []), (46, .iaload, 1, []), (47, .aload_n 0, 1, []), (48, .getfield 17, 3, [10, 4, 2]), (51, .iload_n 3, 1, []), (52, .iaload, 1, []), (53, .if_icmp .eq 9, 3, [35]), (56, .aload_n 0, 1, []), (57, .iconst 5, 1, []), (58, .invokevirtual 56, 3, [138, 1, 10]), (61, .ireturn, 1, [0]), (62, .aload_n 0, 1, []), (63, .iload_n 1, 1, []), (64, .iload_n 2, 1, []), (65, .iload 5, 2, []), (67, .invokevirtual 67, 3, [144, 3, 10]), (70, .ifCond .eq 15, 3, [47]), (73, .aload_n 0, 1, []), (74, .iload_n 3, 1, []), (75, .iload 4, 2, []), (77, .iload 5, 2, []), (79, .invokevirtual 67, 3, [144, 3, 10]), (82, .ifCond .ne 9, 3, [51]), (85, .aload_n 0, 1, []), (86, .iconst 2, 1, []), (87, .invokevirtual 56, 3, [138, 1, 10]), (90, .ireturn, 1, [0]), (91, .iload_n 2, 1, []), (92, .iload 4, 2, []), (94, .if_icmp .ge 7, 3, [56]), (97, .iconst 1, 1, []), (98, .goto 4, 3, [57]), (101, .iconst 0, 1, []), (102, .istore 6, 2, []), (104, .iconst 0, 1, []), (105, .istore 7, 2, []), (107, .iload 7, 2, []), (109, .iload 5, 2, []), (111, .if_icmp .ge 57, 3, [95]), (114, .iload 6, 2, []), (116, .ifCond .eq 13, 3, [71]), (119, .iload 5, 2, []), (121, .iconst 1, 1, []), (122, .isub, 1, []), (123, .iload 7, 2, []), (125, .isub, 1, []), (126, .goto 5, 3, [72]), (129, .iload 7, 2, []), (131, .istore 8, 2, []), (133, .aload_n 0, 1, []), (134, .getfield 23, 3, [10, 6, 2]), (137, .bipush 40, 2, []), (139, .iload_n 3, 1, []), (140, .imul, 1, []), (141, .iload 4, 2, []), (143, .iadd, 1, []), (144, .iload 8, 2, []), (146, .iadd, 1, []), (147, .aload_n 0, 1, []), (148, .getfield 23, 3, [10, 6, 2]), (151, .bipush 40, 2, []), (153, .iload_n 1, 1, []), (154, .imul, 1, []), (155, .iload_n 2, 1, []), (156, .iadd, 1, []), (157, .iload 8, 2, []), (159, .iadd, 1, []), (160, .iaload, 1, []), (161, .iastore, 1, []), (162, .iinc 7 1, 3, []), (165, .goto (-58), 3, [60]), (168, .aload_n 0, 1, []), (169, .iload 5, 2, []), (171, .invokevirtual 60, 3, [139, 1, 10]), (174, .ireturn, 1, [0])]
def jm_p_X10_drop : List jm_E := [(0, .iload_n 1, 1, []), (1, .invokestatic 49, 3, [140, 1]), (4, .ifCond .ne 6, 3, [5]), (7, .ldc 55, 2, [-1000001]), (9, .ireturn, 1, [0]), (10, .aload_n 0, 1, []), (11, .getfield 20, 3, [10, 5, 2]), (14, .iload_n 1, 1, []), (15, .iaload, 1, []), (16, .ifCond .ge 9, 3, [14]), (19, .aload_n 0, 1, []), (20, .iconst 1, 1, []), (21, .invokevirtual 56, 3, [138, 1, 10]), (24, .ireturn, 1, [0]), (25, .aload_n 0, 1, []), (26, .getfield 20, 3, [10, 5, 2]), (29, .iload_n 1, 1, []), (30, .iaload, 1, []), (31, .istore_n 2, 1, []), (32, .aload_n 0, 1, []), (33, .getfield 20, 3, [10, 5, 2]), (36, .iload_n 1, 1, []), (37, .iconst (-1), 1, []), (38, .iastore, 1, []), (39, .aload_n 0, 1, []), (40, .iload_n 2, 1, []), (41, .invokevirtual 60, 3, [139, 1, 10]), (44, .ireturn, 1, [0])]
def jm_p_X10_feed : List jm_E := [(0, .iload_n 1, 1, []), (1, .i2l, 1, []), (2, .lconst 0, 1, []), (3, .ldc2_w 71, 3, [255]), (6, .invokestatic 45, 3, [135, 3]), (9, .ifCond .ne 6, 3, [8]), (12, .ldc 55, 2, [-1000001]), (14, .ireturn, 1, [0]), (15, .aload_n 0, 1, []), (16, .getfield 73, 3, [10, 8, 0]), (19, .bipush 100, 2, []), (21, .if_icmp .ne 6, 3, [14]), (24, .ldc 76, 2, [-1000003]), (26, .ireturn, 1, [0]), (27, .aload_n 0, 1, []), (28, .getfield 26, 3, [10, 7, 2]), (31, .aload_n 0, 1, []), (32, .getfield 73, 3, [10, 8, 0]), (35, .iload_n 1, 1, []), (36, .iastore, 1, []), (37, .aload_n 0, 1, []), (38, .dup, 1, []), (39, .getfield 73, 3, [10, 8, 0]), (42, .iconst 1, 1, []), (43, .iadd, 1, []), (44, .putfield 73, 3, [10, 8, 0]), (47, .aload_n 0, 1, []), (48, .getfield 73, 3, [10, 8, 0]), (51, .ireturn, 1, [0])]
def jm_p_X10_isLetter : List jm_E := [(0, .aload_n 0, 1, []), (1, .getfield 77, 3, [10, 13, 0]), (4, .aload_n 0, 1, []), (5, .getfield 73, 3, [10, 8, 0]), (8, .if_icmp .ge 20, 3, [14]), (11, .aload_n 0, 1, []), (12, .getfield 26, 3, [10, 7, 2]), (15, .aload_n 0, 1, []), (16, .getfield 77, 3, [10, 13, 0]), (19, .iaload, 1, []), (20, .iload_n 1, 1, []), (21, .if_icmp .ne 7, 3, [14]), (24, .iconst 1, 1, []), (25, .goto 4, 3, [15]), (28, .iconst 0, 1, []), (29, .ireturn, 1, [1])]
def jm_p_X10_isFigure : List jm_E := [(0, .iload_n 1, 1, []), (1, .aload_n 0, 1, []), (2, .getfield 73, 3, [10, 8, 0]), (5, .if_icmp .ge 26, 3, [15]), (8, .aload_n 0, 1, []), (9, .getfield 26, 3, [10, 7, 2]), (12, .iload_n 1, 1, []), (13, .iaload, 1, []), (14, .i2l, 1, []), (15, .ldc2_w 80, 3, [48]), (18, .ldc2_w 82, 3, [57]), (21, .invokestatic 45, 3, [135, 3]), (24, .ifCond .eq 7, 3, [15]), (27, .iconst 1, 1, []), (28, .goto 4, 3, [16]), (31, .iconst 0, 1, []), (32, .ireturn, 1, [1])]
def jm_p_X10_refuse : List jm_E := [(0, .aload_n 0, 1, []), (1, .iload_n 1, 1, []), (2, .putfield 84, 3, [10, 14, 0]), (5, .iconst 0, 1, []), (6, .ireturn, 1, [1])]
def jm_p_X10_sign : List jm_E := [(0, .aload_n 0, 1, []), (1, .iload_n 1, 1, []), (2, .invokevirtual 87, 3, [148, 1, 10]), (5, .ifCond .ne 9, 3, [8]), (8, .aload_n 0, 1, []), (9, .iconst 1, 1, []), (10, .invokevirtual 90, 3, [150, 1, 10]), (13, .ireturn, 1, [1]), (14, .aload_n 0, 1, []), (15, .dup, 1, []), (16, .getfield 77, 3, [10, 13, 0]), (19, .iconst 1, 1, []), (20, .iadd, 1, []), (21, .putfield 77, 3, [10, 13, 0]), (24, .iconst 1, 1, []), (25, .ireturn, 1, [1])]
def jm_p_X10_readsNumber : List jm_E := [(0, .aload_n 0, 1, []), (1, .aload_n 0, 1, []), (2, .getfield 77, 3, [10, 13, 0]), (5, .invokevirtual 93, 3, [149, 1, 10]), (8, .ifCond .eq 29, 3, [19]), (11, .aload_n 0, 1, []), (12, .aload_n 0, 1, []), (13, .getfield 77, 3, [10, 13, 0]), (16, .iconst 1, 1, []), (17, .iadd, 1, []), (18, .invokevirtual 93, 3, [149, 1, 10]), (21, .ifCond .eq 22, 3, [23]), (24, .aload_n 0, 1, []), (25, .aload_n 0, 1, []), (26, .getfield 77, 3, [10, 13, 0]), (29, .iconst 2, 1, []), (30, .iadd, 1, []), (31, .invokevirtual 93, 3, [149, 1, 10]), (34, .ifCond .eq 9, 3, [23]), (37, .aload_n 0, 1, []), (38, .iconst 1, 1, []), (39, .invokevirtual 90, 3, [150, 1, 10]), (42, .ireturn, 1, [1]), (43, .aload_n 0, 1, []), (44, .aload_n 0, 1, []), (45, .getfield 26, 3, [10, 7, 2]), (48, .aload_n 0, 1, []), (49, .getfield 77, 3, [10, 13, 0]), (52, .iaload, 1, []), (53, .bipush 48, 2, []), (55, .isub, 1, []), (56, .putfield 96, 3, [10, 15, 0]), (59, .aload_n 0, 1, []), (60, .aload_n 0, 1, []), (61, .getfield 77, 3, [10, 13, 0]), (64, .iconst 1, 1, []), (65, .iadd, 1, []), (66, .invokevirtual 93, 3, [149, 1, 10]), (69, .ifCond .eq 7, 3, [41]), (72, .iconst 2, 1, []), (73, .goto 4, 3, [42]), (76, .iconst 1, 1, []), (77, .istore_n 3, 1, []), (78, .aload_n 0, 1, []), (79, .iload_n 3, 1, []), (80, .iconst 2, 1, []), (81, .if_icmp .ne 28, 3, [62]), (84, .bipush 10, 2, []), (86, .aload_n 0, 1, []), (87, .getfield 96, 3, [10, 15, 0]), (90, .imul, 1, []), (91, .aload_n 0, 1, []), (92, .getfield 26, 3, [10, 7, 2]), (95, .aload_n 0, 1, []), (96, .getfield 77, 3, [10, 13, 0]), (99, .iconst 1, 1, []), (100, .iadd, 1, []), (101, .iaload, 1, []), (102, .iadd, 1, []), (103, .bipush 48, 2, []), (105, .isub, 1, []), (106, .goto 7, 3, [64]), (109, .aload_n 0, 1, []), (110, .getfield 96, 3, [10, 15, 0]), (113, .putfield 96, 3, [10, 15, 0]), (116, .aload_n 0, 1, []), (117, .getfield 96, 3, [10, 15, 0]), (120, .i2l, 1, []), (121, .iload_n 1, 1, []), (122, .i2l, 1, []), (123, .iload_n 2, 1, []), (124, .i2l, 1, []), (125, .invokestatic 45, 3, [135, 3]), (128, .ifCond .ne 9, 3, [78]), (131, .aload_n 0, 1, []), (132, .iconst 2, 1, []), (133, .invokevirtual 90, 3, [150, 1, 10]), (136, .ireturn, 1, [1]), (137, .aload_n 0, 1, []), (138, .dup, 1, []), (139, .getfield 77, 3, [10, 13, 0]), (142, .iload_n 3, 1, []), (143, .iadd, 1, []), (144, .putfield 77, 3, [10, 13, 0]), (147, .iconst 1, 1, []), (148, .ireturn, 1, [1])]
def jm_p_X10_readsLaw : List jm_E := [(0, .aload_n 0, 1, []), (1, .bipush 100, 2, []), (3, .invokevirtual 99, 3, [151, 1, 10]), (6, .ifCond .eq 13, 3, [9]), (9, .aload_n 0, 1, []), (10, .iconst 1, 1, []), (11, .bipush 60, 2, []), (13, .invokevirtual 102, 3, [152, 2, 10]), (16, .ifCond .ne 5, 3, [11]), (19, .iconst 0, 1, []), (20, .ireturn, 1, [1]), (21, .aload_n 0, 1, []), (22, .getfield 7, 3, [10, 0, 2]), (25, .sipush 1676, 3, []), (28, .aload_n 0, 1, []), (29, .getfield 96, 3, [10, 15, 0]), (32, .iastore, 1, []), (33, .aload_n 0, 1, []), (34, .bipush 44, 2, []), (36, .invokevirtual 99, 3, [151, 1, 10]), (39, .ifCond .eq 13, 3, [26]), (42, .aload_n 0, 1, []), (43, .iconst 1, 1, []), (44, .bipush 9, 2, []), (46, .invokevirtual 102, 3, [152, 2, 10]), (49, .ifCond .ne 5, 3, [28]), (52, .iconst 0, 1, []), (53, .ireturn, 1, [1]), (54, .aload_n 0, 1, []), (55, .getfield 7, 3, [10, 0, 2]), (58, .sipush 1677, 3, []), (61, .aload_n 0, 1, []), (62, .getfield 96, 3, [10, 15, 0]), (65, .iastore, 1, []), (66, .aload_n 0, 1, []), (67, .bipush 59, 2, []), (69, .invokevirtual 99, 3, [151, 1, 10]), (72, .ireturn, 1, [1])]
def jm_p_X10_readsMat : List jm_E := [(0, .aload_n 0, 1, []), (1, .getfield 7, 3, [10, 0, 2]), (4, .sipush 1674, 3, []), (7, .iaload, 1, []), (8, .istore_n 1, 1, []), (9, .iload_n 1, 1, []), (10, .iconst 4, 1, []), (11, .if_icmp .ne 9, 3, [12]), (14, .aload_n 0, 1, []), (15, .iconst 3, 1, []), (16, .invokevirtual 90, 3, [150, 1, 10]), (19, .ireturn, 1, [1]), (20, .aload_n 0, 1, []), (21, .dup, 1, []), (22, .getfield 77, 3, [10, 13, 0]), (25, .iconst 1, 1, []), (26, .iadd, 1, []), (27, .putfield 77, 3, [10, 13, 0]), (30, .aload_n 0, 1, []), (31, .iconst 0, 1, []), (32, .iconst 5, 1, []), (33, .invokevirtual 102, 3, [152, 2, 10]), (36, .ifCond .ne 5, 3, [25]), (39, .iconst 0, 1, []), (40, .ireturn, 1, [1]), (41, .aload_n 0, 1, []), (42, .getfield 7, 3, [10, 0, 2]), (45, .sipush 1678, 3, []), (48, .iload_n 1, 1, []), (49, .iadd, 1, []), (50, .aload_n 0, 1, []), (51, .getfield 96, 3, [10, 15, 0]), (54, .iastore, 1, []), (55, .aload_n 0, 1, []), (56, .getfield 7, 3, [10, 0, 2]), (59, .sipush 1674, 3, []), (62, .dup2, 1, []), (63, .iaload, 1, []), (64, .iconst 1, 1, []), (65, .iadd, 1, []), (66, .iastore, 1, []), (67, .aload_n 0, 1, []), (68, .bipush 59, 2, []), (70, .invokevirtual 99, 3, [151, 1, 10]), (73, .ireturn, 1, [1])]
def jm_p_X10_kindOfLetter : List jm_E := [(0, .iload_n 0, 1, []), (1, .bipush 119, 2, []), (3, .if_icmp .ne 7, 3, [5]), (6, .iconst 1, 1, []), (7, .goto 44, 3, [26]), (10, .iload_n 0, 1, []), (11, .bipush 103, 2, []), (13, .if_icmp .ne 7, 3, [10]), (16, .iconst 2, 1, []), (17, .goto 34, 3, [26]), (20, .iload_n 0, 1, []), (21, .bipush 116, 2, []), (23, .if_icmp .ne 7, 3, [15]), (26, .iconst 3, 1, []), (27, .goto 24, 3, [26]), (30, .iload_n 0, 1, []), (31, .bipush 115, 2, []), (33, .if_icmp .ne 7, 3, [20]), (36, .iconst 4, 1, []), (37, .goto 14, 3, [26]), (40, .iload_n 0, 1, []), (41, .bipush 101, 2, []), (43, .if_icmp .ne 7, 3, [25]), (46, .iconst 5, 1, []), (47, .goto 4, 3, [26]), (50, .iconst 0, 1, []), (51, .ireturn, 1, [0])]
def jm_p_X10_readsComer : List jm_E := [(0, .aload_n 0, 1, []), (1, .getfield 7, 3, [10, 0, 2]), (4, .sipush 1675, 3, []), (7, .iaload, 1, []), (8, .istore_n 1, 1, []), (9, .iload_n 1, 1, []), (10, .bipush 6, 2, []), (12, .if_icmp .ne 9, 3, [12]), (15, .aload_n 0, 1, []), (16, .iconst 3, 1, []), (17, .invokevirtual 90, 3, [150, 1, 10]), (20, .ireturn, 1, [1]), (21, .aload_n 0, 1, []), (22, .getfield 7, 3, [10, 0, 2]), (25, .sipush 1706, 3, []), (28, .iload_n 1, 1, []), (29, .iadd, 1, []), (30, .aload_n 0, 1, []), (31, .getfield 26, 3, [10, 7, 2]), (34, .aload_n 0, 1, []), (35, .getfield 77, 3, [10, 13, 0]), (38, .iaload, 1, []), (39, .invokestatic 106, 3, [155, 1]), (42, .iastore, 1, []), (43, .aload_n 0, 1, []), (44, .dup, 1, []), (45, .getfield 77, 3, [10, 13, 0]), (48, .iconst 1, 1, []), (49, .iadd, 1, []), (50, .putfield 77, 3, [10, 13, 0]), (53, .aload_n 0, 1, []), (54, .iconst 0, 1, []), (55, .bipush 30, 2, []), (57, .invokevirtual 102, 3, [152, 2, 10]), (60, .ifCond .ne 5, 3, [37]), (63, .iconst 0, 1, []), (64, .ireturn, 1, [1]), (65, .aload_n 0, 1, []), (66, .getfield 7, 3, [10, 0, 2]), (69, .sipush 1712, 3, []), (72, .iload_n 1, 1, []), (73, .iadd, 1, []), (74, .aload_n 0, 1, []), (75, .getfield 96, 3, [10, 15, 0]), (78, .iastore, 1, []), (79, .aload_n 0, 1, []), (80, .bipush 44, 2, []), (82, .invokevirtual 99, 3, [151, 1, 10]), (85, .ifCond .eq 12, 3, [54]), (88, .aload_n 0, 1, []), (89, .iconst 0, 1, []), (90, .iconst 5, 1, []), (91, .invokevirtual 102, 3, [152, 2, 10]), (94, .ifCond .ne 5, 3, [56]), (97, .iconst 0, 1, []), (98, .ireturn, 1, [1]), (99, .aload_n 0, 1, []), (100, .getfield 7, 3, [10, 0, 2]), (103, .sipush 1718, 3, []), (106, .iload_n 1, 1, []), (107, .iadd, 1, []), (108, .aload_n 0, 1, []), (109, .getfield 96, 3, [10, 15, 0]), (112, .iastore, 1, []), (113, .aload_n 0, 1, []), (114, .bipush 44, 2, []), (116, .invokevirtual 99, 3, [151, 1, 10]), (119, .ifCond .eq 13, 3, [73]), (122, .aload_n 0, 1, []), (123, .iconst 1, 1, []), (124, .bipush 9, 2, []), (126, .invokevirtual 102, 3, [152, 2, 10]), (129, .ifCond .ne 5, 3, [75]), (132, .iconst 0, 1, []), (133, .ireturn, 1, [1]), (134, .aload_n 0, 1, []), (135, .getfield 7, 3, [10, 0, 2]), (138, .sipush 1724, 3, []), (141, .iload_n 1, 1, []), (142, .iadd, 1, []), (143, .aload_n 0, 1, []), (144, .getfield 96, 3, [10, 15, 0]), (147, .iastore, 1, []), (148, .aload_n 0, 1, []), (149, .getfield 7, 3, [10, 0, 2]), (152, .sipush 1675, 3, []), (155, .dup2, 1, []), (156, .iaload, 1, []), (157, .iconst 1, 1, []), (158, .iadd, 1, []), (159, .iastore, 1, []), (160, .aload_n 0, 1, []), (161, .bipush 59, 2, []), (163, .invokevirtual 99, 3, [151, 1, 10]), (166, .ireturn, 1, [1])]
def jm_p_X10_isSort : List jm_E := [(0, .aload_n 0, 1, []), (1, .getfield 77, 3, [10, 13, 0]), (4, .aload_n 0, 1, []), (5, .getfield 73, 3, [10, 8, 0]), (8, .if_icmp .ge 22, 3, [14]), (11, .aload_n 0, 1, []), (12, .getfield 26, 3, [10, 7, 2]), (15, .aload_n 0, 1, []), (16, .getfield 77, 3, [10, 13, 0]), (19, .iaload, 1, []), (20, .invokestatic 106, 3, [155, 1]), (23, .ifCond .le 7, 3, [14]), (26, .iconst 1, 1, []), (27, .goto 4, 3, [15]), (30, .iconst 0, 1, []), (31, .ireturn, 1, [1])]
def jm_p_X10_reads : List jm_E := [(0, .iconst 0, 1, []), (1, .istore_n 1, 1, []), (2, .iload_n 1, 1, []), (3, .bipush 62, 2, []), (5, .if_icmp .ge 20, 3, [14]), (8, .aload_n 0, 1, []), (9, .getfield 7, 3, [10, 0, 2]), (12, .sipush 1674, 3, []), (15, .iload_n 1, 1, []), (16, .iadd, 1, []), (17, .iconst 0, 1, []), (18, .iastore, 1, []), (19, .iinc 1 1, 3, []), (22, .goto (-20), 3, [2]), (25, .aload_n 0, 1, []), (26, .iconst 0, 1, []), (27, .putfield 77, 3, [10, 13, 0]), (30, .aload_n 0, 1, []), (31, .invokevirtual 109, 3, [153, 0, 10]), (34, .ifCond .ne 5, 3, [22]), (37, .iconst 0, 1, []), (38, .ireturn, 1, [1]), (39, .aload_n 0, 1, []), (40, .bipush 109, 2, []), (42, .invokevirtual 87, 3, [148, 1, 10]), (45, .ifCond .ne 9, 3, [30]), (48, .aload_n 0, 1, []), (49, .iconst 1, 1, []), (50, .invokevirtual 90, 3, [150, 1, 10]), (53, .ireturn, 1, [1]), (54, .iconst 1, 1, []), (55, .istore_n 1, 1, []), (56, .iload_n 1, 1, []), (57, .ifCond .eq 20, 3, [42]), (60, .aload_n 0, 1, []), (61, .bipush 109, 2, []), (63, .invokevirtual 87, 3, [148, 1, 10]), (66, .ifCond .eq 11, 3, [42]), (69, .aload_n 0, 1, []), (70, .invokevirtual 113, 3, [154, 0, 10]), (73, .istore_n 1, 1, []), (74, .goto (-18), 3, [32]), (77, .iload_n 1, 1, []), (78, .ifCond .eq 18, 3, [51]), (81, .aload_n 0, 1, []), (82, .invokevirtual 116, 3, [157, 0, 10]), (85, .ifCond .eq 11, 3, [51]), (88, .aload_n 0, 1, []), (89, .invokevirtual 119, 3, [156, 0, 10]), (92, .istore_n 1, 1, []), (93, .goto (-16), 3, [42]), (96, .iload_n 1, 1, []), (97, .ifCond .eq 26, 3, [64]), (100, .aload_n 0, 1, []), (101, .getfield 77, 3, [10, 13, 0]), (104, .aload_n 0, 1, []), (105, .getfield 73, 3, [10, 8, 0]), (108, .if_icmp .eq 11, 3, [62]), (111, .aload_n 0, 1, []), (112, .iconst 1, 1, []), (113, .invokevirtual 90, 3, [150, 1, 10]), (116, .ifCond .eq 7, 3, [64]), (119, .iconst 1, 1, []), (120, .goto 4, 3, [65]), (123, .iconst 0, 1, []), (124, .ireturn, 1, [1])]
def jm_p_X10_hotel : List jm_E := [(0, .aload_n 0, 1, []), (1, .invokevirtual 122, 3, [158, 0, 10]), (4, .istore_n 1, 1, []), (5, .aload_n 0, 1, []), (6, .iconst 0, 1, []), (7, .putfield 73, 3, [10, 8, 0]), (10, .iload_n 1, 1, []), (11, .ifCond .ne 19, 3, [17]), (14, .aload_n 0, 1, []), (15, .aload_n 0, 1, []), (16, .getfield 84, 3, [10, 14, 0]), (19, .putfield 125, 3, [10, 9, 0]), (22, .ldc 128, 2, [-1000100]), (24, .aload_n 0, 1, []), (25, .getfield 77, 3, [10, 13, 0]), (28, .isub, 1, []), (29, .ireturn, 1, [0]), (30, .aload_n 0, 1, []), (31, .sipush 1674, 3, []), (34, .iconst 0, 1, []), (35, .invokevirtual 129, 3, [161, 2, 10]), (38, .aload_n 0, 1, []), (39, .iconst 1, 1, []), (40, .putfield 133, 3, [10, 1, 1]), (43, .aload_n 0, 1, []), (44, .iconst 0, 1, []), (45, .putfield 137, 3, [10, 2, 0]), (48, .aload_n 0, 1, []), (49, .getfield 7, 3, [10, 0, 2]), (52, .iconst 1, 1, []), (53, .iaload, 1, []), (54, .ireturn, 1, [0])]
def jm_p_X10_fault : List jm_E := [(0, .aload_n 0, 1, []), (1, .getfield 125, 3, [10, 9, 0]), (4, .ireturn, 1, [0])]
def jm_p_X10_copyTown : List jm_E := [(0, .iconst 0, 1, []), (1, .istore_n 3, 1, []), (2, .iload_n 3, 1, []), (3, .bipush 62, 2, []), (5, .if_icmp .ge 25, 3, [19]), (8, .aload_n 0, 1, []), (9, .getfield 7, 3, [10, 0, 2]), (12, .iload_n 2, 1, []), (13, .iload_n 3, 1, []), (14, .iadd, 1, []), (15, .aload_n 0, 1, []), (16, .getfield 7, 3, [10, 0, 2]), (19, .iload_n 1, 1, []), (20, .iload_n 3, 1, []), (21, .iadd, 1, []), (22, .iaload, 1, []), (23, .iastore, 1, []), (24, .iinc 3 1, 3, []), (27, .goto (-25), 3, [2]), (30, .return_, 1, [])]
def jm_p_X10_keepPast : List jm_E := [(0, .iconst 0, 1, []), (1, .istore_n 1, 1, []), (2, .iload_n 1, 1, []), (3, .sipush 1426, 3, []), (6, .if_icmp .ge 36, 3, [23]), (9, .aload_n 0, 1, []), (10, .getfield 137, 3, [10, 2, 0]), (13, .bipush 24, 2, []), (15, .if_icmp .ne 27, 3, [23]), (18, .aload_n 0, 1, []), (19, .getfield 7, 3, [10, 0, 2]), (22, .bipush 62, 2, []), (24, .iload_n 1, 1, []), (25, .iadd, 1, []), (26, .aload_n 0, 1, []), (27, .getfield 7, 3, [10, 0, 2]), (30, .bipush 124, 2, []), (32, .iload_n 1, 1, []), (33, .iadd, 1, []), (34, .iaload, 1, []), (35, .iastore, 1, []), (36, .iinc 1 1, 3, []), (39, .goto (-37), 3, [2]), (42, .aload_n 0, 1, []), (43, .dup, 1, []), (44, .getfield 137, 3, [10, 2, 0]), (47, .aload_n 0, 1, []), (48, .getfield 137, 3, [10, 2, 0]), (51, .bipush 24, 2, []), (53, .if_icmp .ne 7, 3, [32]), (56, .iconst 1, 1, []), (57, .goto 4, 3, [33]), (60, .iconst 0, 1, []), (61, .isub, 1, []), (62, .putfield 137, 3, [10, 2, 0]), (65, .aload_n 0, 1, []), (66, .iconst 0, 1, []), (67, .bipush 62, 2, []), (69, .bipush 62, 2, []), (71, .aload_n 0, 1, []), (72, .getfield 137, 3, [10, 2, 0]), (75, .imul, 1, []), (76, .iadd, 1, []), (77, .invokevirtual 129, 3, [161, 2, 10]), (80, .aload_n 0, 1, []), (81, .dup, 1, []), (82, .getfield 137, 3, [10, 2, 0]), (85, .iconst 1, 1, []), (86, .iadd, 1, []), (87, .putfield 137, 3, [10, 2, 0]), (90, .return_, 1, [])]
def jm_p_X10_undo : List jm_E := [(0, .aload_n 0, 1, []), (1, .getfield 137, 3, [10, 2, 0]), (4, .ifCond .ne 6, 3, [5]), (7, .ldc 140, 2, [-1000002]), (9, .ireturn, 1, [0]), (10, .aload_n 0, 1, []), (11, .dup, 1, []), (12, .getfield 137, 3, [10, 2, 0]), (15, .iconst 1, 1, []), (16, .isub, 1, []), (17, .putfield 137, 3, [10, 2, 0]), (20, .aload_n 0, 1, []), (21, .bipush 62, 2, []), (23, .bipush 62, 2, []), (25, .aload_n 0, 1, []), (26, .getfield 137, 3, [10, 2, 0]), (29, .imul, 1, []), (30, .iadd, 1, []), (31, .iconst 0, 1, []), (32, .invokevirtual 129, 3, [161, 2, 10]), (35, .aload_n 0, 1, []), (36, .getfield 137, 3, [10, 2, 0]), (39, .ireturn, 1, [0])]
def jm_p_X10_isComer : List jm_E := [(0, .iload_n 1, 1, []), (1, .i2l, 1, []), (2, .lconst 0, 1, []), (3, .aload_n 0, 1, []), (4, .getfield 7, 3, [10, 0, 2]), (7, .iconst 1, 1, []), (8, .iaload, 1, []), (9, .iconst 1, 1, []), (10, .isub, 1, []), (11, .i2l, 1, []), (12, .invokestatic 45, 3, [135, 3]), (15, .ireturn, 1, [1])]
def jm_p_X10_isMat : List jm_E := [(0, .iload_n 1, 1, []), (1, .i2l, 1, []), (2, .lconst 0, 1, []), (3, .aload_n 0, 1, []), (4, .getfield 7, 3, [10, 0, 2]), (7, .iconst 0, 1, []), (8, .iaload, 1, []), (9, .iconst 1, 1, []), (10, .isub, 1, []), (11, .i2l, 1, []), (12, .invokestatic 45, 3, [135, 3]), (15, .ireturn, 1, [1])]
def jm_p_X10_liesOn : List jm_E := [(0, .iconst 0, 1, []), (1, .istore_n 3, 1, []), (2, .iconst 0, 1, []), (3, .istore 4, 2, []), (5, .iload 4, 2, []), (7, .bipush 6, 2, []), (9, .if_icmp .ge 29, 3, [24]), (12, .iload_n 3, 1, []), (13, .aload_n 0, 1, []), (14, .getfield 7, 3, [10, 0, 2]), (17, .iload_n 1, 1, []), (18, .bipush 8, 2, []), (20, .iadd, 1, []), (21, .bipush 6, 2, []), (23, .iload_n 2, 1, []), (24, .imul, 1, []), (25, .iadd, 1, []), (26, .iload 4, 2, []), (28, .iadd, 1, []), (29, .iaload, 1, []), (30, .iadd, 1, []), (31, .istore_n 3, 1, []), (32, .iinc 4 1, 3, []), (35, .goto (-30), 3, [4]), (38, .iload_n 3, 1, []), (39, .ireturn, 1, [0])]
def jm_p_X10_onAll : List jm_E := [(0, .iconst 0, 1, []), (1, .istore_n 2, 1, []), (2, .iconst 0, 1, []), (3, .istore_n 3, 1, []), (4, .iload_n 3, 1, []), (5, .aload_n 0, 1, []), (6, .getfield 7, 3, [10, 0, 2]), (9, .iload_n 1, 1, []), (10, .iconst 0, 1, []), (11, .iadd, 1, []), (12, .iaload, 1, []), (13, .if_icmp .ge 18, 3, [21]), (16, .iload_n 2, 1, []), (17, .aload_n 0, 1, []), (18, .iload_n 1, 1, []), (19, .iload_n 3, 1, []), (20, .invokevirtual 141, 3, [166, 2, 10]), (23, .iadd, 1, []), (24, .istore_n 2, 1, []), (25, .iinc 3 1, 3, []), (28, .goto (-24), 3, [4]), (31, .iload_n 2, 1, []), (32, .ireturn, 1, [0])]
def jm_p_X10_leavesOn : List jm_E := [(0, .aload_n 0, 1, []), (1, .getfield 7, 3, [10, 0, 2]), (4, .iload_n 1, 1, []), (5, .bipush 50, 2, []), (7, .iadd, 1, []), (8, .iload_n 2, 1, []), (9, .iadd, 1, []), (10, .iaload, 1, []), (11, .istore 5, 2, []), (13, .iload 5, 2, []), (15, .istore 6, 2, []), (17, .aload_n 0, 1, []), (18, .getfield 7, 3, [10, 0, 2]), (21, .iload_n 1, 1, []), (22, .bipush 32, 2, []), (24, .iadd, 1, []), (25, .iload_n 2, 1, []), (26, .iadd, 1, []), (27, .iaload, 1, []), (28, .tableswitch 111 2 5 #[32, 70, 85, 102], 32, [2, 20, 3, 44, 4, 51, 5, 60, 65]), (60, .aload_n 0, 1, []), (61, .getfield 7, 3, [10, 0, 2]), (64, .iload_n 1, 1, []), (65, .iconst 4, 1, []), (66, .iadd, 1, []), (67, .iload_n 3, 1, []), (68, .iadd, 1, []), (69, .iaload, 1, []), (70, .aload_n 0, 1, []), (71, .getfield 7, 3, [10, 0, 2]), (74, .iload_n 1, 1, []), (75, .bipush 44, 2, []), (77, .iadd, 1, []), (78, .iload_n 2, 1, []), (79, .iadd, 1, []), (80, .iaload, 1, []), (81, .if_icmp .ne 10, 3, [41]), (84, .iconst 2, 1, []), (85, .iload 5, 2, []), (87, .imul, 1, []), (88, .goto 5, 3, [42]), (91, .iload 5, 2, []), (93, .istore 6, 2, []), (95, .goto 44, 3, [65]), (98, .iload_n 3, 1, []), (99, .ifCond .ne 7, 3, [48]), (102, .iconst 0, 1, []), (103, .goto 5, 3, [49]), (106, .iload 5, 2, []), (108, .istore 6, 2, []), (110, .goto 29, 3, [65]), (113, .iload_n 3, 1, []), (114, .ifCond .ne 10, 3, [57]), (117, .iload 4, 2, []), (119, .iconst 2, 1, []), (120, .idiv, 1, []), (121, .goto 4, 3, [58]), (124, .iconst 0, 1, []), (125, .istore 6, 2, []), (127, .goto 12, 3, [65]), (130, .iload 4, 2, []), (132, .iconst 2, 1, []), (133, .idiv, 1, []), (134, .istore 6, 2, []), (136, .goto 3, 3, [65]), (139, .aload_n 0, 1, []), (140, .getfield 7, 3, [10, 0, 2]), (143, .iload_n 1, 1, []), (144, .iconst 2, 1, []), (145, .iadd, 1, []), (146, .iaload, 1, []), (147, .aload_n 0, 1, []), (148, .iload_n 1, 1, []), (149, .iload_n 3, 1, []), (150, .invokevirtual 141, 3, [166, 2, 10]), (153, .isub, 1, []), (154, .istore 7, 2, []), (156, .iload 6, 2, []), (158, .iload 4, 2, []), (160, .if_icmp .ge 8, 3, [82]), (163, .iload 6, 2, []), (165, .goto 5, 3, [83]), (168, .iload 4, 2, []), (170, .istore 6, 2, []), (172, .iload 6, 2, []), (174, .iload 7, 2, []), (176, .if_icmp .ge 8, 3, [89]), (179, .iload 6, 2, []), (181, .goto 5, 3, [90]), (184, .iload 7, 2, []), (186, .ireturn, 1, [0])]
def jm_p_X10_comesAt : List jm_E := [(0, .aload_n 0, 1, []), (1, .getfield 7, 3, [10, 0, 2]), (4, .iload_n 1, 1, []), (5, .bipush 38, 2, []), (7, .iadd, 1, []), (8, .iload_n 2, 1, []), (9, .iadd, 1, []), (10, .iaload, 1, []), (11, .istore_n 3, 1, []), (12, .iconst 0, 1, []), (13, .istore 4, 2, []), (15, .iload 4, 2, []), (17, .aload_n 0, 1, []), (18, .getfield 7, 3, [10, 0, 2]), (21, .iload_n 1, 1, []), (22, .iconst 0, 1, []), (23, .iadd, 1, []), (24, .iaload, 1, []), (25, .if_icmp .ge 57, 3, [55]), (28, .aload_n 0, 1, []), (29, .iload_n 1, 1, []), (30, .iload_n 2, 1, []), (31, .iload 4, 2, []), (33, .iload_n 3, 1, []), (34, .invokevirtual 144, 3, [168, 4, 10]), (37, .istore 5, 2, []), (39, .aload_n 0, 1, []), (40, .getfield 7, 3, [10, 0, 2]), (43, .iload_n 1, 1, []), (44, .bipush 8, 2, []), (46, .iadd, 1, []), (47, .bipush 6, 2, []), (49, .iload 4, 2, []), (51, .imul, 1, []), (52, .iadd, 1, []), (53, .aload_n 0, 1, []), (54, .getfield 7, 3, [10, 0, 2]), (57, .iload_n 1, 1, []), (58, .bipush 44, 2, []), (60, .iadd, 1, []), (61, .iload_n 2, 1, []), (62, .iadd, 1, []), (63, .iaload, 1, []), (64, .iadd, 1, []), (65, .dup2, 1, []), (66, .iaload, 1, []), (67, .iload 5, 2, []), (69, .iadd, 1, []), (70, .iastore, 1, []), (71, .iload_n 3, 1, []), (72, .iload 5, 2, []), (74, .isub, 1, []), (75, .istore_n 3, 1, []), (76, .iinc 4 1, 3, []), (79, .goto (-64), 3, [11]), (82, .aload_n 0, 1, []), (83, .getfield 7, 3, [10, 0, 2]), (86, .iload_n 1, 1, []), (87, .bipush 56, 2, []), (89, .iadd, 1, []), (90, .iload_n 2, 1, []), (91, .iadd, 1, []), (92, .dup2, 1, []), (93, .iaload, 1, []), (94, .iconst 1, 1, []), (95, .iadd, 1, []), (96, .iastore, 1, []), (97, .iload_n 3, 1, []), (98, .ireturn, 1, [0])]
def jm_p_X10_beatsAt : List jm_E := [(0, .aload_n 0, 1, []), (1, .iload_n 1, 1, []), (2, .iload_n 2, 1, []), (3, .invokevirtual 141, 3, [166, 2, 10]), (6, .istore_n 3, 1, []), (7, .iconst 0, 1, []), (8, .istore 4, 2, []), (10, .iload 4, 2, []), (12, .bipush 6, 2, []), (14, .if_icmp .ge 27, 3, [25]), (17, .aload_n 0, 1, []), (18, .getfield 7, 3, [10, 0, 2]), (21, .iload_n 1, 1, []), (22, .bipush 8, 2, []), (24, .iadd, 1, []), (25, .bipush 6, 2, []), (27, .iload_n 2, 1, []), (28, .imul, 1, []), (29, .iadd, 1, []), (30, .iload 4, 2, []), (32, .iadd, 1, []), (33, .iconst 0, 1, []), (34, .iastore, 1, []), (35, .iinc 4 1, 3, []), (38, .goto (-28), 3, [7]), (41, .iload_n 3, 1, []), (42, .ireturn, 1, [0])]
def jm_p_X10_areAtOne : List jm_E := [(0, .aload_n 0, 1, []), (1, .getfield 7, 3, [10, 0, 2]), (4, .iload_n 1, 1, []), (5, .bipush 8, 2, []), (7, .iadd, 1, []), (8, .bipush 6, 2, []), (10, .iload_n 2, 1, []), (11, .imul, 1, []), (12, .iadd, 1, []), (13, .aload_n 0, 1, []), (14, .getfield 7, 3, [10, 0, 2]), (17, .iload_n 1, 1, []), (18, .iconst 4, 1, []), (19, .iadd, 1, []), (20, .iload_n 3, 1, []), (21, .iadd, 1, []), (22, .iaload, 1, []), (23, .iadd, 1, []), (24, .iaload, 1, []), (25, .aload_n 0, 1, []), (26, .getfield 7, 3, [10, 0, 2]), (29, .iload_n 1, 1, []), (30, .iconst 3, 1, []), (31, .iadd, 1, []), (32, .iaload, 1, []), (33, .if_icmp .lt 7, 3, [28]), (36, .iconst 1, 1, []), (37, .goto 4, 3, [29]), (40, .iconst 0, 1, []), (41, .istore 4, 2, []), (43, .aload_n 0, 1, []), (44, .getfield 7, 3, [10, 0, 2]), (47, .iload_n 1, 1, []), (48, .bipush 8, 2, []), (50, .iadd, 1, []), (51, .bipush 6, 2, []), (53, .iload_n 3, 1, []), (54, .imul, 1, []), (55, .iadd, 1, []), (56, .aload_n 0, 1, []), (57, .getfield 7, 3, [10, 0, 2]), (60, .iload_n 1, 1, []), (61, .iconst 4, 1, []), (62, .iadd, 1, []), (63, .iload_n 2, 1, []), (64, .iadd, 1, []), (65, .iaload, 1, []), (66, .iadd, 1, []), (67, .iaload, 1, []), (68, .aload_n 0, 1, []), (69, .getfield 7, 3, [10, 0, 2]), (72, .iload_n 1, 1, []), (73, .iconst 3, 1, []), (74, .iadd, 1, []), (75, .iaload, 1, []), (76, .if_icmp .lt 7, 3, [58]), (79, .iconst 1, 1, []), (80, .goto 4, 3, [59]), (83, .iconst 0, 1, []), (84, .istore 5, 2, []), (86, .iload_n 2, 1, []), (87, .iload_n 3, 1, []), (88, .if_icmp .eq 17, 3, [69]), (91, .iload 4, 2, []), (93, .ifCond .eq 12, 3, [69]), (96, .iload 5, 2, []), (98, .ifCond .eq 7, 3, [69]), (101, .iconst 1, 1, []), (102, .goto 4, 3, [70]), (105, .iconst 0, 1, []), (106, .ireturn, 1, [1])]
def jm_p_X10_come : List jm_E := [(0, .aload_n 0, 1, []), (1, .iload_n 1, 1, []), (2, .invokevirtual 148, 3, [164, 1, 10]), (5, .ifCond .ne 6, 3, [6]), (8, .ldc 55, 2, [-1000001]), (10, .ireturn, 1, [0]), (11, .aload_n 0, 1, []), (12, .getfield 7, 3, [10, 0, 2]), (15, .bipush 56, 2, []), (17, .iload_n 1, 1, []), (18, .iadd, 1, []), (19, .iaload, 1, []), (20, .sipush 999, 3, []), (23, .if_icmp .ne 6, 3, [16]), (26, .ldc 76, 2, [-1000003]), (28, .ireturn, 1, [0]), (29, .aload_n 0, 1, []), (30, .invokevirtual 151, 3, [162, 0, 10]), (33, .aload_n 0, 1, []), (34, .iconst 0, 1, []), (35, .iload_n 1, 1, []), (36, .invokevirtual 154, 3, [169, 2, 10]), (39, .ireturn, 1, [0])]
def jm_p_X10_beat : List jm_E := [(0, .aload_n 0, 1, []), (1, .iload_n 1, 1, []), (2, .invokevirtual 157, 3, [165, 1, 10]), (5, .ifCond .ne 6, 3, [6]), (8, .ldc 55, 2, [-1000001]), (10, .ireturn, 1, [0]), (11, .aload_n 0, 1, []), (12, .invokevirtual 151, 3, [162, 0, 10]), (15, .aload_n 0, 1, []), (16, .iconst 0, 1, []), (17, .iload_n 1, 1, []), (18, .invokevirtual 160, 3, [170, 2, 10]), (21, .ireturn, 1, [0])]
def jm_p_X10_swapPlaces : List jm_E := [(0, .aload_n 0, 1, []), (1, .getfield 7, 3, [10, 0, 2]), (4, .iload_n 1, 1, []), (5, .iaload, 1, []), (6, .istore_n 3, 1, []), (7, .aload_n 0, 1, []), (8, .getfield 7, 3, [10, 0, 2]), (11, .iload_n 1, 1, []), (12, .aload_n 0, 1, []), (13, .getfield 7, 3, [10, 0, 2]), (16, .iload_n 2, 1, []), (17, .iaload, 1, []), (18, .iastore, 1, []), (19, .aload_n 0, 1, []), (20, .getfield 7, 3, [10, 0, 2]), (23, .iload_n 2, 1, []), (24, .iload_n 3, 1, []), (25, .iastore, 1, []), (26, .return_, 1, [])]
def jm_p_X10_change : List jm_E := [(0, .iload_n 1, 1, []), (1, .i2l, 1, []), (2, .lconst 0, 1, []), (3, .aload_n 0, 1, []), (4, .getfield 7, 3, [10, 0, 2]), (7, .iconst 0, 1, []), (8, .iaload, 1, []), (9, .iconst 2, 1, []), (10, .isub, 1, []), (11, .i2l, 1, []), (12, .invokestatic 45, 3, [135, 3]), (15, .ifCond .ne 6, 3, [14]), (18, .ldc 55, 2, [-1000001]), (20, .ireturn, 1, [0]), (21, .aload_n 0, 1, []), (22, .invokevirtual 151, 3, [162, 0, 10]), (25, .aload_n 0, 1, []), (26, .iconst 4, 1, []), (27, .iload_n 1, 1, []), (28, .iadd, 1, []), (29, .iconst 4, 1, []), (30, .iload_n 1, 1, []), (31, .iadd, 1, []), (32, .iconst 1, 1, []), (33, .iadd, 1, []), (34, .invokevirtual 163, 3, [174, 2, 10]), (37, .iconst 0, 1, []), (38, .istore_n 2, 1, []), (39, .iload_n 2, 1, []), (40, .bipush 6, 2, []), (42, .if_icmp .ge 34, 3, [51]), (45, .aload_n 0, 1, []), (46, .bipush 8, 2, []), (48, .bipush 6, 2, []), (50, .iload_n 1, 1, []), (51, .imul, 1, []), (52, .iadd, 1, []), (53, .iload_n 2, 1, []), (54, .iadd, 1, []), (55, .bipush 8, 2, []), (57, .bipush 6, 2, []), (59, .iload_n 1, 1, []), (60, .imul, 1, []), (61, .iadd, 1, []), (62, .bipush 6, 2, []), (64, .iadd, 1, []), (65, .iload_n 2, 1, []), (66, .iadd, 1, []), (67, .invokevirtual 163, 3, [174, 2, 10]), (70, .iinc 2 1, 3, []), (73, .goto (-34), 3, [28]), (76, .aload_n 0, 1, []), (77, .getfield 7, 3, [10, 0, 2]), (80, .iconst 4, 1, []), (81, .iload_n 1, 1, []), (82, .iadd, 1, []), (83, .iaload, 1, []), (84, .ireturn, 1, [0])]
def jm_p_X10_rain : List jm_E := [(0, .aload_n 0, 1, []), (1, .getfield 133, 3, [10, 1, 1]), (4, .ifCond .ne 6, 3, [5]), (7, .ldc 140, 2, [-1000002]), (9, .ireturn, 1, [0]), (10, .iload_n 1, 1, []), (11, .i2l, 1, []), (12, .lconst 1, 1, []), (13, .ldc2_w 166, 3, [20]), (16, .invokestatic 45, 3, [135, 3]), (19, .ifCond .ne 6, 3, [13]), (22, .ldc 55, 2, [-1000001]), (24, .ireturn, 1, [0]), (25, .aload_n 0, 1, []), (26, .invokevirtual 151, 3, [162, 0, 10]), (29, .iconst 0, 1, []), (30, .istore_n 2, 1, []), (31, .iconst 0, 1, []), (32, .istore_n 3, 1, []), (33, .iload_n 3, 1, []), (34, .aload_n 0, 1, []), (35, .getfield 7, 3, [10, 0, 2]), (38, .iconst 1, 1, []), (39, .iaload, 1, []), (40, .if_icmp .ge 57, 3, [57]), (43, .aload_n 0, 1, []), (44, .getfield 7, 3, [10, 0, 2]), (47, .bipush 38, 2, []), (49, .iload_n 3, 1, []), (50, .iadd, 1, []), (51, .iaload, 1, []), (52, .iload_n 1, 1, []), (53, .iadd, 1, []), (54, .istore 4, 2, []), (56, .aload_n 0, 1, []), (57, .getfield 7, 3, [10, 0, 2]), (60, .bipush 38, 2, []), (62, .iload_n 3, 1, []), (63, .iadd, 1, []), (64, .iload 4, 2, []), (66, .bipush 60, 2, []), (68, .if_icmp .le 8, 3, [44]), (71, .bipush 60, 2, []), (73, .goto 5, 3, [45]), (76, .iload 4, 2, []), (78, .iastore, 1, []), (79, .iload_n 2, 1, []), (80, .aload_n 0, 1, []), (81, .getfield 7, 3, [10, 0, 2]), (84, .bipush 38, 2, []), (86, .iload_n 3, 1, []), (87, .iadd, 1, []), (88, .iaload, 1, []), (89, .iadd, 1, []), (90, .istore_n 2, 1, []), (91, .iinc 3 1, 3, []), (94, .goto (-61), 3, [19]), (97, .iload_n 2, 1, []), (98, .ireturn, 1, [0])]
def jm_p_X10_comer : List jm_E := [(0, .aload_n 0, 1, []), (1, .iload_n 1, 1, []), (2, .invokevirtual 148, 3, [164, 1, 10]), (5, .ifCond .ne 6, 3, [6]), (8, .ldc 55, 2, [-1000001]), (10, .ireturn, 1, [0]), (11, .iload_n 2, 1, []), (12, .tableswitch 72 0 3 #[32, 42, 52, 62], 32, [0, 8, 1, 15, 2, 22, 3, 29, 36]), (44, .aload_n 0, 1, []), (45, .getfield 7, 3, [10, 0, 2]), (48, .bipush 38, 2, []), (50, .iload_n 1, 1, []), (51, .iadd, 1, []), (52, .iaload, 1, []), (53, .ireturn, 1, [0]), (54, .aload_n 0, 1, []), (55, .getfield 7, 3, [10, 0, 2]), (58, .bipush 44, 2, []), (60, .iload_n 1, 1, []), (61, .iadd, 1, []), (62, .iaload, 1, []), (63, .ireturn, 1, [0]), (64, .aload_n 0, 1, []), (65, .getfield 7, 3, [10, 0, 2]), (68, .bipush 50, 2, []), (70, .iload_n 1, 1, []), (71, .iadd, 1, []), (72, .iaload, 1, []), (73, .ireturn, 1, [0]), (74, .aload_n 0, 1, []), (75, .getfield 7, 3, [10, 0, 2]), (78, .bipush 56, 2, []), (80, .iload_n 1, 1, []), (81, .iadd, 1, []), (82, .iaload, 1, []), (83, .ireturn, 1, [0]), (84, .ldc 55, 2, [-1000001]), (86, .ireturn, 1, [0])]
def jm_p_X10_masterOf : List jm_E := [(0, .ldc 168, 2, [-1000000]), (2, .istore_n 2, 1, []), (3, .iconst 0, 1, []), (4, .istore_n 3, 1, []), (5, .iconst 0, 1, []), (6, .istore 4, 2, []), (8, .iload 4, 2, []), (10, .bipush 6, 2, []), (12, .if_icmp .ge 72, 3, [48]), (15, .aload_n 0, 1, []), (16, .getfield 7, 3, [10, 0, 2]), (19, .bipush 8, 2, []), (21, .bipush 6, 2, []), (23, .iload_n 1, 1, []), (24, .imul, 1, []), (25, .iadd, 1, []), (26, .iload 4, 2, []), (28, .iadd, 1, []), (29, .iaload, 1, []), (30, .iload_n 3, 1, []), (31, .if_icmp .le 7, 3, [23]), (34, .iconst 1, 1, []), (35, .goto 4, 3, [24]), (38, .iconst 0, 1, []), (39, .istore 5, 2, []), (41, .iload 5, 2, []), (43, .ifCond .eq 8, 3, [29]), (46, .iload 4, 2, []), (48, .goto 4, 3, [30]), (51, .iload_n 2, 1, []), (52, .istore_n 2, 1, []), (53, .iload 5, 2, []), (55, .ifCond .eq 21, 3, [44]), (58, .aload_n 0, 1, []), (59, .getfield 7, 3, [10, 0, 2]), (62, .bipush 8, 2, []), (64, .bipush 6, 2, []), (66, .iload_n 1, 1, []), (67, .imul, 1, []), (68, .iadd, 1, []), (69, .iload 4, 2, []), (71, .iadd, 1, []), (72, .iaload, 1, []), (73, .goto 4, 3, [45]), (76, .iload_n 3, 1, []), (77, .istore_n 3, 1, []), (78, .iinc 4 1, 3, []), (81, .goto (-73), 3, [6]), (84, .iload_n 2, 1, []), (85, .ireturn, 1, [0])]
def jm_p_X10_mat : List jm_E := [(0, .aload_n 0, 1, []), (1, .iload_n 1, 1, []), (2, .invokevirtual 157, 3, [165, 1, 10]), (5, .ifCond .ne 6, 3, [6]), (8, .ldc 55, 2, [-1000001]), (10, .ireturn, 1, [0]), (11, .iload_n 2, 1, []), (12, .tableswitch 68 0 3 #[32, 41, 48, 62], 32, [0, 8, 1, 15, 2, 20, 3, 30, 34]), (44, .aload_n 0, 1, []), (45, .getfield 7, 3, [10, 0, 2]), (48, .iconst 4, 1, []), (49, .iload_n 1, 1, []), (50, .iadd, 1, []), (51, .iaload, 1, []), (52, .ireturn, 1, [0]), (53, .aload_n 0, 1, []), (54, .iconst 0, 1, []), (55, .iload_n 1, 1, []), (56, .invokevirtual 141, 3, [166, 2, 10]), (59, .ireturn, 1, [0]), (60, .aload_n 0, 1, []), (61, .getfield 7, 3, [10, 0, 2]), (64, .iconst 2, 1, []), (65, .iaload, 1, []), (66, .aload_n 0, 1, []), (67, .iconst 0, 1, []), (68, .iload_n 1, 1, []), (69, .invokevirtual 141, 3, [166, 2, 10]), (72, .isub, 1, []), (73, .ireturn, 1, [0]), (74, .aload_n 0, 1, []), (75, .iload_n 1, 1, []), (76, .invokevirtual 169, 3, [178, 1, 10]), (79, .ireturn, 1, [0]), (80, .ldc 55, 2, [-1000001]), (82, .ireturn, 1, [0])]
def jm_p_X10_soil : List jm_E := [(0, .aload_n 0, 1, []), (1, .iload_n 1, 1, []), (2, .invokevirtual 157, 3, [165, 1, 10]), (5, .ifCond .eq 32, 3, [21]), (8, .iload_n 2, 1, []), (9, .i2l, 1, []), (10, .lconst 0, 1, []), (11, .ldc2_w 172, 3, [5]), (14, .invokestatic 45, 3, [135, 3]), (17, .ifCond .eq 20, 3, [21]), (20, .aload_n 0, 1, []), (21, .getfield 7, 3, [10, 0, 2]), (24, .bipush 8, 2, []), (26, .bipush 6, 2, []), (28, .iload_n 1, 1, []), (29, .imul, 1, []), (30, .iadd, 1, []), (31, .iload_n 2, 1, []), (32, .iadd, 1, []), (33, .iaload, 1, []), (34, .goto 5, 3, [22]), (37, .ldc 55, 2, [-1000001]), (39, .ireturn, 1, [0])]
def jm_p_X10_atOne : List jm_E := [(0, .aload_n 0, 1, []), (1, .iload_n 1, 1, []), (2, .invokevirtual 157, 3, [165, 1, 10]), (5, .ifCond .eq 11, 3, [8]), (8, .aload_n 0, 1, []), (9, .iload_n 2, 1, []), (10, .invokevirtual 157, 3, [165, 1, 10]), (13, .ifCond .ne 6, 3, [10]), (16, .ldc 55, 2, [-1000001]), (18, .ireturn, 1, [0]), (19, .aload_n 0, 1, []), (20, .iconst 0, 1, []), (21, .iload_n 1, 1, []), (22, .iload_n 2, 1, []), (23, .invokevirtual 174, 3, [171, 3, 10]), (26, .ifCond .eq 7, 3, [18]), (29, .iconst 1, 1, []), (30, .goto 4, 3, [19]), (33, .iconst 0, 1, []), (34, .ireturn, 1, [0])]
def jm_p_X10_layTried : List jm_E := [(0, .aload_n 0, 1, []), (1, .iconst 0, 1, []), (2, .sipush 1674, 3, []), (5, .invokevirtual 129, 3, [161, 2, 10]), (8, .return_, 1, [])]
def jm_p_X10_carriesIf : List jm_E := [(0, .aload_n 0, 1, []), (1, .invokevirtual 177, 3, [182, 0, 10]), (4, .aload_n 0, 1, []), (5, .sipush 1674, 3, []), (8, .iload_n 1, 1, []), (9, .invokevirtual 154, 3, [169, 2, 10]), (12, .ireturn, 1, [0])]
def jm_p_X10_leaves : List jm_E := [(0, .aload_n 0, 1, []), (1, .iload_n 1, 1, []), (2, .invokevirtual 148, 3, [164, 1, 10]), (5, .ifCond .eq 11, 3, [8]), (8, .aload_n 0, 1, []), (9, .iload_n 2, 1, []), (10, .invokevirtual 157, 3, [165, 1, 10]), (13, .ifCond .ne 6, 3, [10]), (16, .ldc 55, 2, [-1000001]), (18, .ireturn, 1, [0]), (19, .aload_n 0, 1, []), (20, .iload_n 1, 1, []), (21, .invokevirtual 180, 3, [183, 1, 10]), (24, .pop, 1, []), (25, .aload_n 0, 1, []), (26, .sipush 1674, 3, []), (29, .iload_n 2, 1, []), (30, .invokevirtual 141, 3, [166, 2, 10]), (33, .aload_n 0, 1, []), (34, .iconst 0, 1, []), (35, .iload_n 2, 1, []), (36, .invokevirtual 141, 3, [166, 2, 10]), (39, .isub, 1, []), (40, .ireturn, 1, [0])]
def jm_p_X10_carries : List jm_E := [(0, .aload_n 0, 1, []), (1, .iload_n 1, 1, []), (2, .invokevirtual 148, 3, [164, 1, 10]), (5, .ifCond .eq 11, 3, [8]), (8, .aload_n 0, 1, []), (9, .iload_n 1, 1, []), (10, .invokevirtual 180, 3, [183, 1, 10]), (13, .goto 5, 3, [9]), (16, .ldc 55, 2, [-1000001]), (18, .ireturn, 1, [0])]
def jm_p_X10_clean : List jm_E := [(0, .aload_n 0, 1, []), (1, .getfield 133, 3, [10, 1, 1]), (4, .ifCond .ne 6, 3, [5]), (7, .ldc 140, 2, [-1000002]), (9, .ireturn, 1, [0]), (10, .iconst 0, 1, []), (11, .istore_n 1, 1, []), (12, .iconst 0, 1, []), (13, .istore_n 2, 1, []), (14, .iload_n 2, 1, []), (15, .aload_n 0, 1, []), (16, .getfield 7, 3, [10, 0, 2]), (19, .iconst 1, 1, []), (20, .iaload, 1, []), (21, .if_icmp .ge 27, 3, [29]), (24, .iload_n 1, 1, []), (25, .aload_n 0, 1, []), (26, .iload_n 2, 1, []), (27, .invokevirtual 180, 3, [183, 1, 10]), (30, .ifCond .ne 9, 3, [24]), (33, .iconst 1, 1, []), (34, .iload_n 2, 1, []), (35, .ishl, 1, []), (36, .goto 4, 3, [25]), (39, .iconst 0, 1, []), (40, .ior, 1, []), (41, .istore_n 1, 1, []), (42, .iinc 2 1, 3, []), (45, .goto (-31), 3, [9]), (48, .iload_n 1, 1, []), (49, .ireturn, 1, [0])]
def jm_p_X10_layLine : List jm_E := [(0, .iconst 0, 1, []), (1, .istore_n 2, 1, []), (2, .iload_n 2, 1, []), (3, .iload_n 1, 1, []), (4, .if_icmp .ge 16, 3, [12]), (7, .aload_n 0, 1, []), (8, .getfield 32, 3, [10, 16, 2]), (11, .iload_n 2, 1, []), (12, .iload_n 2, 1, []), (13, .iastore, 1, []), (14, .iinc 2 1, 3, []), (17, .goto (-15), 3, [2]), (20, .return_, 1, [])]
def jm_p_X10_swapLine : List jm_E := [(0, .aload_n 0, 1, []), (1, .getfield 32, 3, [10, 16, 2]), (4, .iload_n 1, 1, []), (5, .iaload, 1, []), (6, .istore_n 3, 1, []), (7, .aload_n 0, 1, []), (8, .getfield 32, 3, [10, 16, 2]), (11, .iload_n 1, 1, []), (12, .aload_n 0, 1, []), (13, .getfield 32, 3, [10, 16, 2]), (16, .iload_n 2, 1, []), (17, .iaload, 1, []), (18, .iastore, 1, []), (19, .aload_n 0, 1, []), (20, .getfield 32, 3, [10, 16, 2]), (23, .iload_n 2, 1, []), (24, .iload_n 3, 1, []), (25, .iastore, 1, []), (26, .return_, 1, [])]
def jm_p_X10_takeLine : List jm_E := [(0, .iconst 0, 1, []), (1, .istore_n 1, 1, []), (2, .iload_n 1, 1, []), (3, .bipush 6, 2, []), (5, .if_icmp .ge 21, 3, [15]), (8, .aload_n 0, 1, []), (9, .getfield 35, 3, [10, 17, 2]), (12, .iload_n 1, 1, []), (13, .aload_n 0, 1, []), (14, .getfield 32, 3, [10, 16, 2]), (17, .iload_n 1, 1, []), (18, .iaload, 1, []), (19, .iastore, 1, []), (20, .iinc 1 1, 3, []), (23, .goto (-21), 3, [2]), (26, .return_, 1, [])]
def jm_p_X10_nextLine : List jm_E := [(0, .iload_n 1, 1, []), (1, .iconst 2, 1, []), (2, .isub, 1, []), (3, .istore_n 2, 1, []), (4, .iload_n 2, 1, []), (5, .ifCond .lt 26, 3, [19]), (8, .aload_n 0, 1, []), (9, .getfield 32, 3, [10, 16, 2]), (12, .iload_n 2, 1, []), (13, .iaload, 1, []), (14, .aload_n 0, 1, []), (15, .getfield 32, 3, [10, 16, 2]), (18, .iload_n 2, 1, []), (19, .iconst 1, 1, []), (20, .iadd, 1, []), (21, .iaload, 1, []), (22, .if_icmp .le 9, 3, [19]), (25, .iinc 2 (-1), 3, []), (28, .goto (-24), 3, [4]), (31, .iload_n 2, 1, []), (32, .ifCond .ge 5, 3, [23]), (35, .iconst 0, 1, []), (36, .ireturn, 1, [1]), (37, .iload_n 1, 1, []), (38, .iconst 1, 1, []), (39, .isub, 1, []), (40, .istore_n 3, 1, []), (41, .aload_n 0, 1, []), (42, .getfield 32, 3, [10, 16, 2]), (45, .iload_n 3, 1, []), (46, .iaload, 1, []), (47, .aload_n 0, 1, []), (48, .getfield 32, 3, [10, 16, 2]), (51, .iload_n 2, 1, []), (52, .iaload, 1, []), (53, .if_icmp .ge 9, 3, [38]), (56, .iinc 3 (-1), 3, []), (59, .goto (-18), 3, [27]), (62, .aload_n 0, 1, []), (63, .iload_n 2, 1, []), (64, .iload_n 3, 1, []), (65, .invokevirtual 183, 3, [188, 2, 10]), (68, .iload_n 2, 1, []), (69, .iconst 1, 1, []), (70, .iadd, 1, []), (71, .istore 4, 2, []), (73, .iload_n 1, 1, []), (74, .iconst 1, 1, []), (75, .isub, 1, []), (76, .istore 5, 2, []), (78, .iload 4, 2, []), (80, .iload 5, 2, []), (82, .if_icmp .ge 20, 3, [60]), (85, .aload_n 0, 1, []), (86, .iload 4, 2, []), (88, .iload 5, 2, []), (90, .invokevirtual 183, 3, [188, 2, 10]), (93, .iinc 4 1, 3, []), (96, .iinc 5 (-1), 3, []), (99, .goto (-21), 3, [50]), (102, .iconst 1, 1, []), (103, .ireturn, 1, [1])]
def jm_p_X10_comeAll : List jm_E := [(0, .iconst 0, 1, []), (1, .istore_n 2, 1, []), (2, .iconst 0, 1, []), (3, .istore_n 3, 1, []), (4, .iload_n 3, 1, []), (5, .aload_n 0, 1, []), (6, .getfield 7, 3, [10, 0, 2]), (9, .iconst 1, 1, []), (10, .iaload, 1, []), (11, .if_icmp .ge 32, 3, [25]), (14, .iload_n 2, 1, []), (15, .iload_n 1, 1, []), (16, .iload_n 3, 1, []), (17, .invokestatic 186, 3, [136, 2]), (20, .ifCond .eq 7, 3, [17]), (23, .iconst 0, 1, []), (24, .goto 11, 3, [21]), (27, .aload_n 0, 1, []), (28, .sipush 1674, 3, []), (31, .iload_n 3, 1, []), (32, .invokevirtual 154, 3, [169, 2, 10]), (35, .iadd, 1, []), (36, .istore_n 2, 1, []), (37, .iinc 3 1, 3, []), (40, .goto (-36), 3, [4]), (43, .iload_n 2, 1, []), (44, .ireturn, 1, [0])]
def jm_p_X10_order : List jm_E := [(0, .aload_n 0, 1, []), (1, .getfield 133, 3, [10, 1, 1]), (4, .ifCond .ne 6, 3, [5]), (7, .ldc 140, 2, [-1000002]), (9, .ireturn, 1, [0]), (10, .iload_n 1, 1, []), (11, .i2l, 1, []), (12, .ldc2_w 189, 3, [-1]), (15, .ldc2_w 172, 3, [5]), (18, .invokestatic 45, 3, [135, 3]), (21, .ifCond .ne 6, 3, [13]), (24, .ldc 55, 2, [-1000001]), (26, .ireturn, 1, [0]), (27, .aload_n 0, 1, []), (28, .getfield 7, 3, [10, 0, 2]), (31, .iconst 1, 1, []), (32, .iaload, 1, []), (33, .istore_n 2, 1, []), (34, .ldc 168, 2, [-1000000]), (36, .istore_n 3, 1, []), (37, .iconst 1, 1, []), (38, .istore 4, 2, []), (40, .aload_n 0, 1, []), (41, .iload_n 2, 1, []), (42, .invokevirtual 191, 3, [187, 1, 10]), (45, .iload 4, 2, []), (47, .ifCond .eq 73, 3, [63]), (50, .iconst 0, 1, []), (51, .istore 5, 2, []), (53, .aload_n 0, 1, []), (54, .invokevirtual 177, 3, [182, 0, 10]), (57, .iconst 0, 1, []), (58, .istore 6, 2, []), (60, .iload 6, 2, []), (62, .iload_n 2, 1, []), (63, .if_icmp .ge 28, 3, [48]), (66, .iload 5, 2, []), (68, .aload_n 0, 1, []), (69, .sipush 1674, 3, []), (72, .aload_n 0, 1, []), (73, .getfield 32, 3, [10, 16, 2]), (76, .iload 6, 2, []), (78, .iaload, 1, []), (79, .invokevirtual 154, 3, [169, 2, 10]), (82, .iadd, 1, []), (83, .istore 5, 2, []), (85, .iinc 6 1, 3, []), (88, .goto (-28), 3, [33]), (91, .iload_n 3, 1, []), (92, .ldc 168, 2, [-1000000]), (94, .if_icmp .eq 9, 3, [54]), (97, .iload 5, 2, []), (99, .iload_n 3, 1, []), (100, .if_icmp .ge 10, 3, [58]), (103, .iload 5, 2, []), (105, .istore_n 3, 1, []), (106, .aload_n 0, 1, []), (107, .invokevirtual 195, 3, [189, 0, 10]), (110, .aload_n 0, 1, []), (111, .iload_n 2, 1, []), (112, .invokevirtual 198, 3, [190, 1, 10]), (115, .istore 4, 2, []), (117, .goto (-72), 3, [25]), (120, .iload_n 1, 1, []), (121, .ifCond .ge 7, 3, [67]), (124, .iload_n 3, 1, []), (125, .goto 19, 3, [76]), (128, .iload_n 1, 1, []), (129, .iload_n 2, 1, []), (130, .if_icmp .ge 12, 3, [75]), (133, .aload_n 0, 1, []), (134, .getfield 35, 3, [10, 17, 2]), (137, .iload_n 1, 1, []), (138, .iaload, 1, []), (139, .goto 5, 3, [76]), (142, .ldc 168, 2, [-1000000]), (144, .ireturn, 1, [0])]
def jm_p_X10_layMats : List jm_E := [(0, .aload_n 0, 1, []), (1, .invokevirtual 177, 3, [182, 0, 10]), (4, .iconst 0, 1, []), (5, .istore_n 1, 1, []), (6, .iload_n 1, 1, []), (7, .aload_n 0, 1, []), (8, .getfield 7, 3, [10, 0, 2]), (11, .iconst 0, 1, []), (12, .iaload, 1, []), (13, .if_icmp .ge 80, 3, [57]), (16, .aload_n 0, 1, []), (17, .getfield 7, 3, [10, 0, 2]), (20, .sipush 1678, 3, []), (23, .iload_n 1, 1, []), (24, .iadd, 1, []), (25, .aload_n 0, 1, []), (26, .getfield 7, 3, [10, 0, 2]), (29, .iconst 4, 1, []), (30, .aload_n 0, 1, []), (31, .getfield 32, 3, [10, 16, 2]), (34, .iload_n 1, 1, []), (35, .iaload, 1, []), (36, .iadd, 1, []), (37, .iaload, 1, []), (38, .iastore, 1, []), (39, .iconst 0, 1, []), (40, .istore_n 2, 1, []), (41, .iload_n 2, 1, []), (42, .bipush 6, 2, []), (44, .if_icmp .ge 43, 3, [55]), (47, .aload_n 0, 1, []), (48, .getfield 7, 3, [10, 0, 2]), (51, .sipush 1682, 3, []), (54, .bipush 6, 2, []), (56, .iload_n 1, 1, []), (57, .imul, 1, []), (58, .iadd, 1, []), (59, .iload_n 2, 1, []), (60, .iadd, 1, []), (61, .aload_n 0, 1, []), (62, .getfield 7, 3, [10, 0, 2]), (65, .bipush 8, 2, []), (67, .bipush 6, 2, []), (69, .aload_n 0, 1, []), (70, .getfield 32, 3, [10, 16, 2]), (73, .iload_n 1, 1, []), (74, .iaload, 1, []), (75, .imul, 1, []), (76, .iadd, 1, []), (77, .iload_n 2, 1, []), (78, .iadd, 1, []), (79, .iaload, 1, []), (80, .iastore, 1, []), (81, .iinc 2 1, 3, []), (84, .goto (-43), 3, [27]), (87, .iinc 1 1, 3, []), (90, .goto (-84), 3, [4]), (93, .return_, 1, [])]
def jm_p_X10_laying : List jm_E := [(0, .aload_n 0, 1, []), (1, .getfield 133, 3, [10, 1, 1]), (4, .ifCond .ne 6, 3, [5]), (7, .ldc 140, 2, [-1000002]), (9, .ireturn, 1, [0]), (10, .iload_n 1, 1, []), (11, .i2l, 1, []), (12, .ldc2_w 189, 3, [-1]), (15, .ldc2_w 201, 3, [3]), (18, .invokestatic 45, 3, [135, 3]), (21, .ifCond .ne 6, 3, [13]), (24, .ldc 55, 2, [-1000001]), (26, .ireturn, 1, [0]), (27, .aload_n 0, 1, []), (28, .getfield 7, 3, [10, 0, 2]), (31, .iconst 0, 1, []), (32, .iaload, 1, []), (33, .istore_n 2, 1, []), (34, .ldc 168, 2, [-1000000]), (36, .istore_n 3, 1, []), (37, .iconst 1, 1, []), (38, .istore 4, 2, []), (40, .aload_n 0, 1, []), (41, .iload_n 2, 1, []), (42, .invokevirtual 191, 3, [187, 1, 10]), (45, .iload 4, 2, []), (47, .ifCond .eq 43, 3, [48]), (50, .aload_n 0, 1, []), (51, .invokevirtual 203, 3, [193, 0, 10]), (54, .aload_n 0, 1, []), (55, .iconst 0, 1, []), (56, .invokevirtual 206, 3, [191, 1, 10]), (59, .istore 5, 2, []), (61, .iload_n 3, 1, []), (62, .ldc 168, 2, [-1000000]), (64, .if_icmp .eq 9, 3, [39]), (67, .iload 5, 2, []), (69, .iload_n 3, 1, []), (70, .if_icmp .ge 10, 3, [43]), (73, .iload 5, 2, []), (75, .istore_n 3, 1, []), (76, .aload_n 0, 1, []), (77, .invokevirtual 195, 3, [189, 0, 10]), (80, .aload_n 0, 1, []), (81, .iload_n 2, 1, []), (82, .invokevirtual 198, 3, [190, 1, 10]), (85, .istore 4, 2, []), (87, .goto (-42), 3, [25]), (90, .iload_n 1, 1, []), (91, .ifCond .ge 7, 3, [52]), (94, .iload_n 3, 1, []), (95, .goto 19, 3, [61]), (98, .iload_n 1, 1, []), (99, .iload_n 2, 1, []), (100, .if_icmp .ge 12, 3, [60]), (103, .aload_n 0, 1, []), (104, .getfield 35, 3, [10, 17, 2]), (107, .iload_n 1, 1, []), (108, .iaload, 1, []), (109, .goto 5, 3, [61]), (112, .ldc 168, 2, [-1000000]), (114, .ireturn, 1, [0])]
def jm_p_X10_beating : List jm_E := [(0, .aload_n 0, 1, []), (1, .getfield 133, 3, [10, 1, 1]), (4, .ifCond .ne 6, 3, [5]), (7, .ldc 140, 2, [-1000002]), (9, .ireturn, 1, [0]), (10, .iload_n 1, 1, []), (11, .i2l, 1, []), (12, .lconst 0, 1, []), (13, .iconst 1, 1, []), (14, .aload_n 0, 1, []), (15, .getfield 7, 3, [10, 0, 2]), (18, .iconst 1, 1, []), (19, .iaload, 1, []), (20, .ishl, 1, []), (21, .iconst 1, 1, []), (22, .isub, 1, []), (23, .i2l, 1, []), (24, .invokestatic 45, 3, [135, 3]), (27, .ifCond .eq 25, 3, [31]), (30, .iload_n 2, 1, []), (31, .i2l, 1, []), (32, .lconst 0, 1, []), (33, .ldc2_w 209, 3, [200]), (36, .invokestatic 45, 3, [135, 3]), (39, .ifCond .eq 13, 3, [31]), (42, .iload_n 3, 1, []), (43, .i2l, 1, []), (44, .lconst 0, 1, []), (45, .lconst 1, 1, []), (46, .invokestatic 45, 3, [135, 3]), (49, .ifCond .ne 6, 3, [33]), (52, .ldc 55, 2, [-1000001]), (54, .ireturn, 1, [0]), (55, .ldc 168, 2, [-1000000]), (57, .istore 4, 2, []), (59, .iconst 0, 1, []), (60, .istore 5, 2, []), (62, .iload 5, 2, []), (64, .iconst 1, 1, []), (65, .aload_n 0, 1, []), (66, .getfield 7, 3, [10, 0, 2]), (69, .iconst 0, 1, []), (70, .iaload, 1, []), (71, .ishl, 1, []), (72, .if_icmp .ge 105, 3, [93]), (75, .aload_n 0, 1, []), (76, .invokevirtual 177, 3, [182, 0, 10]), (79, .iconst 0, 1, []), (80, .istore 6, 2, []), (82, .iload 6, 2, []), (84, .aload_n 0, 1, []), (85, .getfield 7, 3, [10, 0, 2]), (88, .iconst 0, 1, []), (89, .iaload, 1, []), (90, .if_icmp .ge 29, 3, [66]), (93, .iload 5, 2, []), (95, .iload 6, 2, []), (97, .invokestatic 186, 3, [136, 2]), (100, .ifCond .eq 13, 3, [64]), (103, .aload_n 0, 1, []), (104, .sipush 1674, 3, []), (107, .iload 6, 2, []), (109, .invokevirtual 160, 3, [170, 2, 10]), (112, .pop, 1, []), (113, .iinc 6 1, 3, []), (116, .goto (-34), 3, [49]), (119, .aload_n 0, 1, []), (120, .iload_n 1, 1, []), (121, .iconst (-1), 1, []), (122, .ixor, 1, []), (123, .invokevirtual 206, 3, [191, 1, 10]), (126, .iload_n 2, 1, []), (127, .if_icmp .gt 27, 3, [83]), (130, .iload 4, 2, []), (132, .ldc 168, 2, [-1000000]), (134, .if_icmp .eq 16, 3, [81]), (137, .iload 5, 2, []), (139, .invokestatic 211, 3, [137, 1]), (142, .iload 4, 2, []), (144, .invokestatic 211, 3, [137, 1]), (147, .if_icmp .ge 7, 3, [83]), (150, .iconst 1, 1, []), (151, .goto 4, 3, [84]), (154, .iconst 0, 1, []), (155, .istore 6, 2, []), (157, .iload 6, 2, []), (159, .ifCond .eq 8, 3, [89]), (162, .iload 5, 2, []), (164, .goto 5, 3, [90]), (167, .iload 4, 2, []), (169, .istore 4, 2, []), (171, .iinc 5 1, 3, []), (174, .goto (-112), 3, [37]), (177, .iload 4, 2, []), (179, .ldc 168, 2, [-1000000]), (181, .if_icmp .eq 8, 3, [99]), (184, .iload_n 3, 1, []), (185, .iconst 1, 1, []), (186, .if_icmp .ne 8, 3, [101]), (189, .iload 4, 2, []), (191, .goto 8, 3, [103]), (194, .iload 4, 2, []), (196, .invokestatic 211, 3, [137, 1]), (199, .ireturn, 1, [0])]
def jm_p_X10_pacts : List jm_E := [(0, .aload_n 0, 1, []), (1, .getfield 133, 3, [10, 1, 1]), (4, .ifCond .ne 6, 3, [5]), (7, .ldc 140, 2, [-1000002]), (9, .ireturn, 1, [0]), (10, .iload_n 1, 1, []), (11, .i2l, 1, []), (12, .lconst 0, 1, []), (13, .lconst 1, 1, []), (14, .invokestatic 45, 3, [135, 3]), (17, .ifCond .ne 6, 3, [13]), (20, .ldc 55, 2, [-1000001]), (22, .ireturn, 1, [0]), (23, .iconst 0, 1, []), (24, .istore_n 2, 1, []), (25, .ldc 168, 2, [-1000000]), (27, .istore_n 3, 1, []), (28, .aload_n 0, 1, []), (29, .getfield 7, 3, [10, 0, 2]), (32, .iconst 0, 1, []), (33, .iaload, 1, []), (34, .iconst 1, 1, []), (35, .isub, 1, []), (36, .istore 4, 2, []), (38, .iload 4, 2, []), (40, .ifCond .lt 77, 3, [66]), (43, .aload_n 0, 1, []), (44, .getfield 7, 3, [10, 0, 2]), (47, .iconst 0, 1, []), (48, .iaload, 1, []), (49, .iconst 1, 1, []), (50, .isub, 1, []), (51, .istore 5, 2, []), (53, .iload 5, 2, []), (55, .iload 4, 2, []), (57, .if_icmp .le 54, 3, [64]), (60, .iload_n 2, 1, []), (61, .aload_n 0, 1, []), (62, .iconst 0, 1, []), (63, .iload 4, 2, []), (65, .iload 5, 2, []), (67, .invokevirtual 174, 3, [171, 3, 10]), (70, .ifCond .eq 7, 3, [45]), (73, .iconst 1, 1, []), (74, .goto 4, 3, [46]), (77, .iconst 0, 1, []), (78, .iadd, 1, []), (79, .istore_n 2, 1, []), (80, .aload_n 0, 1, []), (81, .iconst 0, 1, []), (82, .iload 4, 2, []), (84, .iload 5, 2, []), (86, .invokevirtual 174, 3, [171, 3, 10]), (89, .ifCond .eq 14, 3, [60]), (92, .bipush 10, 2, []), (94, .iload 4, 2, []), (96, .imul, 1, []), (97, .iload 5, 2, []), (99, .iadd, 1, []), (100, .goto 4, 3, [61]), (103, .iload_n 3, 1, []), (104, .istore_n 3, 1, []), (105, .iinc 5 (-1), 3, []), (108, .goto (-55), 3, [33]), (111, .iinc 4 (-1), 3, []), (114, .goto (-76), 3, [24]), (117, .iload_n 1, 1, []), (118, .ifCond .ne 7, 3, [70]), (121, .iload_n 2, 1, []), (122, .goto 4, 3, [71]), (125, .iload_n 3, 1, []), (126, .ireturn, 1, [0])]
def jm_p_X10_could : List jm_E := [(0, .aload_n 0, 1, []), (1, .iload_n 1, 1, []), (2, .invokevirtual 157, 3, [165, 1, 10]), (5, .ifCond .eq 16, 3, [11]), (8, .aload_n 0, 1, []), (9, .iload_n 2, 1, []), (10, .invokevirtual 157, 3, [165, 1, 10]), (13, .ifCond .eq 8, 3, [11]), (16, .iload_n 1, 1, []), (17, .iload_n 2, 1, []), (18, .if_icmp .ne 6, 3, [13]), (21, .ldc 55, 2, [-1000001]), (23, .ireturn, 1, [0]), (24, .iconst 0, 1, []), (25, .istore_n 3, 1, []), (26, .iconst 0, 1, []), (27, .istore 4, 2, []), (29, .iload 4, 2, []), (31, .aload_n 0, 1, []), (32, .getfield 7, 3, [10, 0, 2]), (35, .iconst 1, 1, []), (36, .iaload, 1, []), (37, .if_icmp .ge 39, 3, [43]), (40, .aload_n 0, 1, []), (41, .iload 4, 2, []), (43, .invokevirtual 180, 3, [183, 1, 10]), (46, .pop, 1, []), (47, .iload_n 3, 1, []), (48, .aload_n 0, 1, []), (49, .sipush 1674, 3, []), (52, .iload_n 1, 1, []), (53, .iload_n 2, 1, []), (54, .invokevirtual 174, 3, [171, 3, 10]), (57, .ifCond .eq 10, 3, [38]), (60, .iconst 1, 1, []), (61, .iload 4, 2, []), (63, .ishl, 1, []), (64, .goto 4, 3, [39]), (67, .iconst 0, 1, []), (68, .ior, 1, []), (69, .istore_n 3, 1, []), (70, .iinc 4 1, 3, []), (73, .goto (-44), 3, [17]), (76, .iload_n 3, 1, []), (77, .ireturn, 1, [0])]
def jm_p_X10_noItems : List jm_E := [(0, .aload_n 0, 1, []), (1, .getfield 20, 3, [10, 5, 2]), (4, .iload_n 1, 1, []), (5, .iaload, 1, []), (6, .ifCond .ge 11, 3, [9]), (9, .aload_n 0, 1, []), (10, .iconst 1, 1, []), (11, .invokevirtual 56, 3, [138, 1, 10]), (14, .goto 27, 3, [23]), (17, .aload_n 0, 1, []), (18, .iload_n 1, 1, []), (19, .iload_n 2, 1, []), (20, .aload_n 0, 1, []), (21, .getfield 7, 3, [10, 0, 2]), (24, .iconst 0, 1, []), (25, .iaload, 1, []), (26, .invokevirtual 67, 3, [144, 3, 10]), (29, .ifCond .eq 7, 3, [20]), (32, .iconst 0, 1, []), (33, .goto 8, 3, [23]), (36, .aload_n 0, 1, []), (37, .iconst 2, 1, []), (38, .invokevirtual 56, 3, [138, 1, 10]), (41, .ireturn, 1, [0])]
def jm_p_X10_isSo : List jm_E := [(0, .aload_n 0, 1, []), (1, .sipush 1674, 3, []), (4, .iload_n 1, 1, []), (5, .invokevirtual 154, 3, [169, 2, 10]), (8, .pop, 1, []), (9, .iconst 1, 1, []), (10, .istore 4, 2, []), (12, .iconst 0, 1, []), (13, .istore 5, 2, []), (15, .iload 5, 2, []), (17, .aload_n 0, 1, []), (18, .getfield 7, 3, [10, 0, 2]), (21, .iconst 0, 1, []), (22, .iaload, 1, []), (23, .if_icmp .ge 47, 3, [38]), (26, .iload 4, 2, []), (28, .ifCond .eq 33, 3, [34]), (31, .aload_n 0, 1, []), (32, .sipush 1674, 3, []), (35, .iload 5, 2, []), (37, .invokevirtual 141, 3, [166, 2, 10]), (40, .aload_n 0, 1, []), (41, .getfield 23, 3, [10, 6, 2]), (44, .bipush 40, 2, []), (46, .iload_n 2, 1, []), (47, .imul, 1, []), (48, .iload_n 3, 1, []), (49, .iadd, 1, []), (50, .iload 5, 2, []), (52, .iadd, 1, []), (53, .iaload, 1, []), (54, .if_icmp .ne 7, 3, [34]), (57, .iconst 1, 1, []), (58, .goto 4, 3, [35]), (61, .iconst 0, 1, []), (62, .istore 4, 2, []), (64, .iinc 5 1, 3, []), (67, .goto (-52), 3, [9]), (70, .iload 4, 2, []), (72, .ireturn, 1, [1])]
def jm_p_X10_who : List jm_E := [(0, .aload_n 0, 1, []), (1, .getfield 133, 3, [10, 1, 1]), (4, .ifCond .ne 6, 3, [5]), (7, .ldc 140, 2, [-1000002]), (9, .ireturn, 1, [0]), (10, .iload_n 1, 1, []), (11, .invokestatic 49, 3, [140, 1]), (14, .ifCond .ne 6, 3, [10]), (17, .ldc 55, 2, [-1000001]), (19, .ireturn, 1, [0]), (20, .aload_n 0, 1, []), (21, .iload_n 1, 1, []), (22, .iload_n 2, 1, []), (23, .invokevirtual 214, 3, [198, 2, 10]), (26, .istore_n 3, 1, []), (27, .iload_n 3, 1, []), (28, .ifCond .eq 5, 3, [19]), (31, .iload_n 3, 1, []), (32, .ireturn, 1, [0]), (33, .iconst 0, 1, []), (34, .istore 4, 2, []), (36, .iconst 0, 1, []), (37, .istore 5, 2, []), (39, .iload 5, 2, []), (41, .aload_n 0, 1, []), (42, .getfield 7, 3, [10, 0, 2]), (45, .iconst 1, 1, []), (46, .iaload, 1, []), (47, .if_icmp .ge 37, 3, [47]), (50, .aload_n 0, 1, []), (51, .invokevirtual 177, 3, [182, 0, 10]), (54, .iload 4, 2, []), (56, .aload_n 0, 1, []), (57, .iload 5, 2, []), (59, .iload_n 1, 1, []), (60, .iload_n 2, 1, []), (61, .invokevirtual 217, 3, [199, 3, 10]), (64, .ifCond .eq 10, 3, [42]), (67, .iconst 1, 1, []), (68, .iload 5, 2, []), (70, .ishl, 1, []), (71, .goto 4, 3, [43]), (74, .iconst 0, 1, []), (75, .ior, 1, []), (76, .istore 4, 2, []), (78, .iinc 5 1, 3, []), (81, .goto (-42), 3, [23]), (84, .aload_n 0, 1, []), (85, .iload 4, 2, []), (87, .invokevirtual 60, 3, [139, 1, 10]), (90, .ireturn, 1, [0])]
def jm_p_X10_fits : List jm_E := [(0, .aload_n 0, 1, []), (1, .iload_n 1, 1, []), (2, .invokevirtual 148, 3, [164, 1, 10]), (5, .ifCond .eq 23, 3, [13]), (8, .iload_n 2, 1, []), (9, .invokestatic 49, 3, [140, 1]), (12, .ifCond .eq 16, 3, [13]), (15, .iload 4, 2, []), (17, .i2l, 1, []), (18, .lconst 0, 1, []), (19, .ldc2_w 201, 3, [3]), (22, .invokestatic 45, 3, [135, 3]), (25, .ifCond .ne 6, 3, [15]), (28, .ldc 55, 2, [-1000001]), (30, .ireturn, 1, [0]), (31, .aload_n 0, 1, []), (32, .iload_n 2, 1, []), (33, .iload_n 3, 1, []), (34, .invokevirtual 214, 3, [198, 2, 10]), (37, .istore 5, 2, []), (39, .iload 5, 2, []), (41, .ifCond .eq 6, 3, [24]), (44, .iload 5, 2, []), (46, .ireturn, 1, [0]), (47, .iload 4, 2, []), (49, .ifCond .ne 8, 3, [28]), (52, .bipush 32, 2, []), (54, .goto 27, 3, [39]), (57, .iload 4, 2, []), (59, .iconst 1, 1, []), (60, .if_icmp .ne 8, 3, [33]), (63, .bipush 38, 2, []), (65, .goto 16, 3, [39]), (68, .iload 4, 2, []), (70, .iconst 2, 1, []), (71, .if_icmp .ne 8, 3, [38]), (74, .bipush 50, 2, []), (76, .goto 5, 3, [39]), (79, .bipush 44, 2, []), (81, .iload_n 1, 1, []), (82, .iadd, 1, []), (83, .istore 6, 2, []), (85, .iload 4, 2, []), (87, .ifCond .eq 9, 3, [47]), (90, .iload 4, 2, []), (92, .iconst 2, 1, []), (93, .if_icmp .ne 7, 3, [49]), (96, .iconst 1, 1, []), (97, .goto 4, 3, [50]), (100, .iconst 0, 1, []), (101, .istore 7, 2, []), (103, .iload 4, 2, []), (105, .ifCond .eq 9, 3, [56]), (108, .iload 4, 2, []), (110, .iconst 3, 1, []), (111, .if_icmp .ne 7, 3, [58]), (114, .iconst 5, 1, []), (115, .goto 16, 3, [64]), (118, .iload 4, 2, []), (120, .iconst 1, 1, []), (121, .if_icmp .ne 8, 3, [63]), (124, .bipush 29, 2, []), (126, .goto 5, 3, [64]), (129, .bipush 9, 2, []), (131, .istore 8, 2, []), (133, .iconst 0, 1, []), (134, .istore 9, 2, []), (136, .iload 7, 2, []), (138, .istore 10, 2, []), (140, .iload 10, 2, []), (142, .iload 8, 2, []), (144, .if_icmp .gt 49, 3, [97]), (147, .aload_n 0, 1, []), (148, .invokevirtual 177, 3, [182, 0, 10]), (151, .aload_n 0, 1, []), (152, .getfield 7, 3, [10, 0, 2]), (155, .sipush 1674, 3, []), (158, .iload 6, 2, []), (160, .iadd, 1, []), (161, .iload 10, 2, []), (163, .iastore, 1, []), (164, .iload 9, 2, []), (166, .aload_n 0, 1, []), (167, .iload_n 1, 1, []), (168, .iload_n 2, 1, []), (169, .iload_n 3, 1, []), (170, .invokevirtual 217, 3, [199, 3, 10]), (173, .ifCond .eq 10, 3, [92]), (176, .iconst 1, 1, []), (177, .iload 10, 2, []), (179, .ishl, 1, []), (180, .goto 4, 3, [93]), (183, .iconst 0, 1, []), (184, .ior, 1, []), (185, .istore 9, 2, []), (187, .iinc 10 1, 3, []), (190, .goto (-50), 3, [69]), (193, .aload_n 0, 1, []), (194, .iload 9, 2, []), (196, .invokevirtual 60, 3, [139, 1, 10]), (199, .ireturn, 1, [0])]
def jm_p_X10_absent : List jm_E := [(0, .aload_n 0, 1, []), (1, .getfield 133, 3, [10, 1, 1]), (4, .ifCond .ne 6, 3, [5]), (7, .ldc 140, 2, [-1000002]), (9, .ireturn, 1, [0]), (10, .iload_n 1, 1, []), (11, .i2l, 1, []), (12, .lconst 0, 1, []), (13, .ldc2_w 209, 3, [200]), (16, .invokestatic 45, 3, [135, 3]), (19, .ifCond .eq 25, 3, [23]), (22, .iload_n 2, 1, []), (23, .i2l, 1, []), (24, .lconst 0, 1, []), (25, .ldc2_w 220, 3, [10]), (28, .invokestatic 45, 3, [135, 3]), (31, .ifCond .eq 13, 3, [23]), (34, .iload_n 3, 1, []), (35, .i2l, 1, []), (36, .lconst 0, 1, []), (37, .lconst 1, 1, []), (38, .invokestatic 45, 3, [135, 3]), (41, .ifCond .ne 6, 3, [25]), (44, .ldc 55, 2, [-1000001]), (46, .ireturn, 1, [0]), (47, .iconst 0, 1, []), (48, .istore 4, 2, []), (50, .iconst 0, 1, []), (51, .istore 5, 2, []), (53, .iconst 0, 1, []), (54, .istore 6, 2, []), (56, .iload 6, 2, []), (58, .iconst 1, 1, []), (59, .aload_n 0, 1, []), (60, .getfield 7, 3, [10, 0, 2]), (63, .iconst 1, 1, []), (64, .iaload, 1, []), (65, .ishl, 1, []), (66, .if_icmp .ge 87, 3, [82]), (69, .iconst 1, 1, []), (70, .istore 7, 2, []), (72, .iconst 0, 1, []), (73, .istore 8, 2, []), (75, .iload 8, 2, []), (77, .aload_n 0, 1, []), (78, .getfield 7, 3, [10, 0, 2]), (81, .iconst 1, 1, []), (82, .iaload, 1, []), (83, .if_icmp .ge 32, 3, [63]), (86, .iload 7, 2, []), (88, .iload 6, 2, []), (90, .iload 8, 2, []), (92, .invokestatic 186, 3, [136, 2]), (95, .ifCond .eq 7, 3, [56]), (98, .iload_n 2, 1, []), (99, .goto 7, 3, [59]), (102, .bipush 10, 2, []), (104, .iload_n 2, 1, []), (105, .isub, 1, []), (106, .imul, 1, []), (107, .istore 7, 2, []), (109, .iinc 8 1, 3, []), (112, .goto (-37), 3, [43]), (115, .aload_n 0, 1, []), (116, .invokevirtual 177, 3, [182, 0, 10]), (119, .iload 4, 2, []), (121, .aload_n 0, 1, []), (122, .iload 6, 2, []), (124, .invokevirtual 206, 3, [191, 1, 10]), (127, .iload_n 1, 1, []), (128, .if_icmp .gt 8, 3, [73]), (131, .iload 7, 2, []), (133, .goto 4, 3, [74]), (136, .iconst 0, 1, []), (137, .iadd, 1, []), (138, .istore 4, 2, []), (140, .iload 5, 2, []), (142, .iload 7, 2, []), (144, .iadd, 1, []), (145, .istore 5, 2, []), (147, .iinc 6 1, 3, []), (150, .goto (-94), 3, [31]), (153, .iload 4, 2, []), (155, .istore 6, 2, []), (157, .iload 5, 2, []), (159, .istore 7, 2, []), (161, .iload 7, 2, []), (163, .ifCond .eq 21, 3, [97]), (166, .iload 6, 2, []), (168, .iload 7, 2, []), (170, .irem, 1, []), (171, .istore 8, 2, []), (173, .iload 7, 2, []), (175, .istore 6, 2, []), (177, .iload 8, 2, []), (179, .istore 7, 2, []), (181, .goto (-20), 3, [86]), (184, .iload_n 3, 1, []), (185, .ifCond .ne 11, 3, [103]), (188, .iload 4, 2, []), (190, .iload 6, 2, []), (192, .idiv, 1, []), (193, .goto 8, 3, [106]), (196, .iload 5, 2, []), (198, .iload 6, 2, []), (200, .idiv, 1, []), (201, .ireturn, 1, [0])]
def jm_p_X10_drawn : List jm_E := [(0, .aload_n 0, 1, []), (1, .getfield 133, 3, [10, 1, 1]), (4, .ifCond .ne 6, 3, [5]), (7, .ldc 140, 2, [-1000002]), (9, .ireturn, 1, [0]), (10, .iload_n 1, 1, []), (11, .i2l, 1, []), (12, .lconst 0, 1, []), (13, .ldc2_w 222, 3, [60]), (16, .invokestatic 45, 3, [135, 3]), (19, .ifCond .eq 25, 3, [23]), (22, .iload_n 2, 1, []), (23, .i2l, 1, []), (24, .lconst 1, 1, []), (25, .ldc2_w 224, 3, [999999]), (28, .invokestatic 45, 3, [135, 3]), (31, .ifCond .eq 13, 3, [23]), (34, .iload_n 3, 1, []), (35, .i2l, 1, []), (36, .lconst 0, 1, []), (37, .lconst 1, 1, []), (38, .invokestatic 45, 3, [135, 3]), (41, .ifCond .ne 6, 3, [25]), (44, .ldc 55, 2, [-1000001]), (46, .ireturn, 1, [0]), (47, .aload_n 0, 1, []), (48, .invokevirtual 177, 3, [182, 0, 10]), (51, .iload_n 2, 1, []), (52, .i2l, 1, []), (53, .lstore 4, 2, []), (55, .iconst 0, 1, []), (56, .istore 6, 2, []), (58, .iconst 0, 1, []), (59, .istore 7, 2, []), (61, .iload 7, 2, []), (63, .iload_n 1, 1, []), (64, .if_icmp .ge 83, 3, [82]), (67, .lload 4, 2, []), (69, .ldc2_w 226, 3, [16807]), (72, .lmul, 1, []), (73, .ldc2_w 228, 3, [2147483647]), (76, .lrem, 1, []), (77, .lstore 4, 2, []), (79, .lload 4, 2, []), (81, .ldc2_w 43, 3, [7]), (84, .lrem, 1, []), (85, .lconst 0, 1, []), (86, .lcmp, 1, []), (87, .ifCond .ne 22, 3, [61]), (90, .aload_n 0, 1, []), (91, .sipush 1674, 3, []), (94, .lload 4, 2, []), (96, .aload_n 0, 1, []), (97, .getfield 7, 3, [10, 0, 2]), (100, .iconst 0, 1, []), (101, .iaload, 1, []), (102, .i2l, 1, []), (103, .lrem, 1, []), (104, .l2i, 1, []), (105, .invokevirtual 160, 3, [170, 2, 10]), (108, .pop, 1, []), (109, .aload_n 0, 1, []), (110, .getfield 7, 3, [10, 0, 2]), (113, .iconst 1, 1, []), (114, .iaload, 1, []), (115, .ifCond .le 26, 3, [80]), (118, .iload 6, 2, []), (120, .aload_n 0, 1, []), (121, .sipush 1674, 3, []), (124, .lload 4, 2, []), (126, .aload_n 0, 1, []), (127, .getfield 7, 3, [10, 0, 2]), (130, .iconst 1, 1, []), (131, .iaload, 1, []), (132, .i2l, 1, []), (133, .lrem, 1, []), (134, .l2i, 1, []), (135, .invokevirtual 154, 3, [169, 2, 10]), (138, .iadd, 1, []), (139, .istore 6, 2, []), (141, .iinc 7 1, 3, []), (144, .goto (-83), 3, [34]), (147, .iload_n 3, 1, []), (148, .ifCond .ne 8, 3, [86]), (151, .iload 6, 2, []), (153, .goto 10, 3, [89]), (156, .aload_n 0, 1, []), (157, .sipush 1674, 3, []), (160, .invokevirtual 230, 3, [167, 1, 10]), (163, .ireturn, 1, [0])]
def jm_p_X10_image : List jm_E := [(0, .iload_n 1, 1, []), (1, .i2l, 1, []), (2, .lconst 0, 1, []), (3, .lconst 1, 1, []), (4, .invokestatic 45, 3, [135, 3]), (7, .ifCond .ne 6, 3, [8]), (10, .ldc 55, 2, [-1000001]), (12, .ireturn, 1, [0]), (13, .aload_n 0, 1, []), (14, .getfield 133, 3, [10, 1, 1]), (17, .ifCond .ne 6, 3, [13]), (20, .ldc 140, 2, [-1000002]), (22, .ireturn, 1, [0]), (23, .aload_n 0, 1, []), (24, .iconst 0, 1, []), (25, .sipush 1550, 3, []), (28, .bipush 62, 2, []), (30, .iload_n 1, 1, []), (31, .imul, 1, []), (32, .iadd, 1, []), (33, .invokevirtual 129, 3, [161, 2, 10]), (36, .aload_n 0, 1, []), (37, .getfield 13, 3, [10, 3, 2]), (40, .iload_n 1, 1, []), (41, .iconst 1, 1, []), (42, .bastore, 1, []), (43, .iconst 1, 1, []), (44, .ireturn, 1, [0])]
def jm_p_X10_restore : List jm_E := [(0, .iload_n 1, 1, []), (1, .i2l, 1, []), (2, .lconst 0, 1, []), (3, .lconst 1, 1, []), (4, .invokestatic 45, 3, [135, 3]), (7, .ifCond .ne 6, 3, [8]), (10, .ldc 55, 2, [-1000001]), (12, .ireturn, 1, [0]), (13, .aload_n 0, 1, []), (14, .getfield 13, 3, [10, 3, 2]), (17, .iload_n 1, 1, []), (18, .baload, 1, []), (19, .ifCond .ne 6, 3, [15]), (22, .ldc 140, 2, [-1000002]), (24, .ireturn, 1, [0]), (25, .aload_n 0, 1, []), (26, .sipush 1550, 3, []), (29, .bipush 62, 2, []), (31, .iload_n 1, 1, []), (32, .imul, 1, []), (33, .iadd, 1, []), (34, .iconst 0, 1, []), (35, .invokevirtual 129, 3, [161, 2, 10]), (38, .aload_n 0, 1, []), (39, .iconst 0, 1, []), (40, .putfield 137, 3, [10, 2, 0]), (43, .iconst 1, 1, []), (44, .ireturn, 1, [0])]
def jm_p_X10_kind : List jm_E := [(0, .aload_n 0, 1, []), (1, .iload_n 1, 1, []), (2, .invokevirtual 148, 3, [164, 1, 10]), (5, .ifCond .eq 15, 3, [11]), (8, .aload_n 0, 1, []), (9, .getfield 7, 3, [10, 0, 2]), (12, .bipush 32, 2, []), (14, .iload_n 1, 1, []), (15, .iadd, 1, []), (16, .iaload, 1, []), (17, .goto 5, 3, [12]), (20, .ldc 55, 2, [-1000001]), (22, .ireturn, 1, [0])]
def jm_p_X10_isOf : List jm_E := [(0, .aload_n 0, 1, []), (1, .getfield 7, 3, [10, 0, 2]), (4, .bipush 32, 2, []), (6, .iload_n 1, 1, []), (7, .iadd, 1, []), (8, .iaload, 1, []), (9, .istore_n 3, 1, []), (10, .iload_n 2, 1, []), (11, .ifCond .eq 33, 3, [27]), (14, .iload_n 2, 1, []), (15, .iload_n 3, 1, []), (16, .if_icmp .eq 28, 3, [27]), (19, .iload_n 2, 1, []), (20, .iconst 1, 1, []), (21, .if_icmp .ne 13, 3, [21]), (24, .iload_n 3, 1, []), (25, .iconst 2, 1, []), (26, .if_icmp .eq 18, 3, [27]), (29, .iload_n 3, 1, []), (30, .iconst 3, 1, []), (31, .if_icmp .eq 13, 3, [27]), (34, .iload_n 2, 1, []), (35, .iconst 4, 1, []), (36, .if_icmp .ne 12, 3, [29]), (39, .iload_n 3, 1, []), (40, .iconst 5, 1, []), (41, .if_icmp .ne 7, 3, [29]), (44, .iconst 1, 1, []), (45, .goto 4, 3, [30]), (48, .iconst 0, 1, []), (49, .ireturn, 1, [1])]
def jm_p_X10_as : List jm_E := [(0, .aload_n 0, 1, []), (1, .iload_n 1, 1, []), (2, .invokevirtual 148, 3, [164, 1, 10]), (5, .ifCond .eq 15, 3, [10]), (8, .iload_n 2, 1, []), (9, .i2l, 1, []), (10, .lconst 0, 1, []), (11, .ldc2_w 172, 3, [5]), (14, .invokestatic 45, 3, [135, 3]), (17, .ifCond .ne 6, 3, [12]), (20, .ldc 55, 2, [-1000001]), (22, .ireturn, 1, [0]), (23, .aload_n 0, 1, []), (24, .iload_n 1, 1, []), (25, .iload_n 2, 1, []), (26, .invokevirtual 233, 3, [207, 2, 10]), (29, .ifCond .eq 11, 3, [21]), (32, .aload_n 0, 1, []), (33, .iload_n 1, 1, []), (34, .invokevirtual 60, 3, [139, 1, 10]), (37, .goto 8, 3, [24]), (40, .aload_n 0, 1, []), (41, .iconst 3, 1, []), (42, .invokevirtual 56, 3, [138, 1, 10]), (45, .ireturn, 1, [0])]
def jm_p_X10_begin : List jm_E := [(0, .aload_n 0, 1, []), (1, .getfield 236, 3, [10, 12, 0]), (4, .bipush 16, 2, []), (6, .if_icmp .ge 23, 3, [16]), (9, .aload_n 0, 1, []), (10, .getfield 29, 3, [10, 11, 2]), (13, .aload_n 0, 1, []), (14, .getfield 236, 3, [10, 12, 0]), (17, .iload_n 1, 1, []), (18, .iastore, 1, []), (19, .aload_n 0, 1, []), (20, .dup, 1, []), (21, .getfield 236, 3, [10, 12, 0]), (24, .iconst 1, 1, []), (25, .iadd, 1, []), (26, .putfield 236, 3, [10, 12, 0]), (29, .return_, 1, [])]
def jm_p_X10_lentSize : List jm_E := [(0, .aload_n 0, 1, []), (1, .bipush 10, 2, []), (3, .invokevirtual 239, 3, [209, 1, 10]), (6, .aload_n 0, 1, []), (7, .getfield 7, 3, [10, 0, 2]), (10, .bipush 38, 2, []), (12, .iload_n 1, 1, []), (13, .iadd, 1, []), (14, .iaload, 1, []), (15, .ireturn, 1, [0])]
def jm_p_X10_wiperSize : List jm_E := [(0, .aload_n 0, 1, []), (1, .bipush 11, 2, []), (3, .invokevirtual 239, 3, [209, 1, 10]), (6, .aload_n 0, 1, []), (7, .iload_n 1, 1, []), (8, .invokevirtual 242, 3, [210, 1, 10]), (11, .istore_n 2, 1, []), (12, .iload_n 2, 1, []), (13, .aload_n 0, 1, []), (14, .iload_n 1, 1, []), (15, .invokevirtual 245, 3, [216, 1, 10]), (18, .iadd, 1, []), (19, .ireturn, 1, [0])]
def jm_p_X10_stamperSize : List jm_E := [(0, .aload_n 0, 1, []), (1, .bipush 13, 2, []), (3, .invokevirtual 239, 3, [209, 1, 10]), (6, .aload_n 0, 1, []), (7, .iload_n 1, 1, []), (8, .invokevirtual 242, 3, [210, 1, 10]), (11, .bipush 100, 2, []), (13, .isub, 1, []), (14, .ireturn, 1, [0])]
def jm_p_X10_sizeOf : List jm_E := [(0, .aload_n 0, 1, []), (1, .getfield 7, 3, [10, 0, 2]), (4, .bipush 32, 2, []), (6, .iload_n 1, 1, []), (7, .iadd, 1, []), (8, .iaload, 1, []), (9, .tableswitch 64 2 5 #[31, 64, 44, 50], 31, [2, 7, 3, 28, 4, 15, 5, 19, 28]), (40, .aload_n 0, 1, []), (41, .bipush 12, 2, []), (43, .invokevirtual 239, 3, [209, 1, 10]), (46, .aload_n 0, 1, []), (47, .iload_n 1, 1, []), (48, .invokevirtual 248, 3, [211, 1, 10]), (51, .ineg, 1, []), (52, .ireturn, 1, [0]), (53, .aload_n 0, 1, []), (54, .iload_n 1, 1, []), (55, .invokevirtual 251, 3, [212, 1, 10]), (58, .ireturn, 1, [0]), (59, .aload_n 0, 1, []), (60, .bipush 14, 2, []), (62, .invokevirtual 239, 3, [209, 1, 10]), (65, .iconst 2, 1, []), (66, .aload_n 0, 1, []), (67, .iload_n 1, 1, []), (68, .invokevirtual 251, 3, [212, 1, 10]), (71, .imul, 1, []), (72, .ireturn, 1, [0]), (73, .aload_n 0, 1, []), (74, .iload_n 1, 1, []), (75, .invokevirtual 248, 3, [211, 1, 10]), (78, .ireturn, 1, [0])]
def jm_p_X10_lentMark : List jm_E := [(0, .aload_n 0, 1, []), (1, .bipush 20, 2, []), (3, .invokevirtual 239, 3, [209, 1, 10]), (6, .iload_n 1, 1, []), (7, .ireturn, 1, [0])]
def jm_p_X10_wiperMark : List jm_E := [(0, .aload_n 0, 1, []), (1, .bipush 21, 2, []), (3, .invokevirtual 239, 3, [209, 1, 10]), (6, .aload_n 0, 1, []), (7, .iload_n 1, 1, []), (8, .invokevirtual 254, 3, [214, 1, 10]), (11, .aload_n 0, 1, []), (12, .getfield 7, 3, [10, 0, 2]), (15, .bipush 56, 2, []), (17, .iload_n 1, 1, []), (18, .iadd, 1, []), (19, .iaload, 1, []), (20, .iadd, 1, []), (21, .ireturn, 1, [0])]
def jm_p_X10_mark : List jm_E := [(0, .aload_n 0, 1, []), (1, .getfield 7, 3, [10, 0, 2]), (4, .bipush 32, 2, []), (6, .iload_n 1, 1, []), (7, .iadd, 1, []), (8, .iaload, 1, []), (9, .lookupswitch 57 #[(2, 43), (3, 27)], 27, [2, 16, 3, 7, 25]), (36, .aload_n 0, 1, []), (37, .bipush 22, 2, []), (39, .invokevirtual 239, 3, [209, 1, 10]), (42, .aload_n 0, 1, []), (43, .iload_n 1, 1, []), (44, .invokevirtual 257, 3, [215, 1, 10]), (47, .sipush 1000, 3, []), (50, .isub, 1, []), (51, .ireturn, 1, [0]), (52, .aload_n 0, 1, []), (53, .bipush 24, 2, []), (55, .invokevirtual 239, 3, [209, 1, 10]), (58, .iconst 2, 1, []), (59, .aload_n 0, 1, []), (60, .iload_n 1, 1, []), (61, .invokevirtual 257, 3, [215, 1, 10]), (64, .imul, 1, []), (65, .ireturn, 1, [0]), (66, .aload_n 0, 1, []), (67, .iload_n 1, 1, []), (68, .invokevirtual 257, 3, [215, 1, 10]), (71, .ireturn, 1, [0])]
def jm_p_X10_stamperMark : List jm_E := [(0, .aload_n 0, 1, []), (1, .bipush 23, 2, []), (3, .invokevirtual 239, 3, [209, 1, 10]), (6, .aload_n 0, 1, []), (7, .iload_n 1, 1, []), (8, .invokevirtual 254, 3, [214, 1, 10]), (11, .istore_n 2, 1, []), (12, .iload_n 2, 1, []), (13, .aload_n 0, 1, []), (14, .iload_n 1, 1, []), (15, .invokevirtual 260, 3, [213, 1, 10]), (18, .isub, 1, []), (19, .ireturn, 1, [0])]
def jm_p_X10_ask : List jm_E := [(0, .aload_n 0, 1, []), (1, .iload_n 1, 1, []), (2, .invokevirtual 148, 3, [164, 1, 10]), (5, .ifCond .eq 13, 3, [10]), (8, .iload_n 2, 1, []), (9, .i2l, 1, []), (10, .lconst 0, 1, []), (11, .lconst 1, 1, []), (12, .invokestatic 45, 3, [135, 3]), (15, .ifCond .ne 6, 3, [12]), (18, .ldc 55, 2, [-1000001]), (20, .ireturn, 1, [0]), (21, .aload_n 0, 1, []), (22, .iconst 0, 1, []), (23, .putfield 236, 3, [10, 12, 0]), (26, .iload_n 2, 1, []), (27, .ifCond .ne 11, 3, [21]), (30, .aload_n 0, 1, []), (31, .iload_n 1, 1, []), (32, .invokevirtual 260, 3, [213, 1, 10]), (35, .goto 25, 3, [33]), (38, .aload_n 0, 1, []), (39, .iload_n 1, 1, []), (40, .iconst 4, 1, []), (41, .invokevirtual 233, 3, [207, 2, 10]), (44, .ifCond .eq 11, 3, [30]), (47, .aload_n 0, 1, []), (48, .iload_n 1, 1, []), (49, .invokevirtual 263, 3, [217, 1, 10]), (52, .goto 8, 3, [33]), (55, .aload_n 0, 1, []), (56, .iload_n 1, 1, []), (57, .invokevirtual 245, 3, [216, 1, 10]), (60, .ireturn, 1, [0])]
def jm_p_X10_trace : List jm_E := [(0, .iload_n 1, 1, []), (1, .i2l, 1, []), (2, .lconst 0, 1, []), (3, .aload_n 0, 1, []), (4, .getfield 236, 3, [10, 12, 0]), (7, .iconst 1, 1, []), (8, .isub, 1, []), (9, .i2l, 1, []), (10, .invokestatic 45, 3, [135, 3]), (13, .ifCond .eq 12, 3, [15]), (16, .aload_n 0, 1, []), (17, .getfield 29, 3, [10, 11, 2]), (20, .iload_n 1, 1, []), (21, .iaload, 1, []), (22, .goto 5, 3, [16]), (25, .ldc 168, 2, [-1000000]), (27, .ireturn, 1, [0])]
def jm_p_X10_comings : List jm_E := [(0, .iconst 0, 1, []), (1, .istore_n 1, 1, []), (2, .iconst 0, 1, []), (3, .istore_n 2, 1, []), (4, .iload_n 2, 1, []), (5, .aload_n 0, 1, []), (6, .getfield 7, 3, [10, 0, 2]), (9, .iconst 1, 1, []), (10, .iaload, 1, []), (11, .if_icmp .ge 21, 3, [21]), (14, .iload_n 1, 1, []), (15, .aload_n 0, 1, []), (16, .getfield 7, 3, [10, 0, 2]), (19, .bipush 56, 2, []), (21, .iload_n 2, 1, []), (22, .iadd, 1, []), (23, .iaload, 1, []), (24, .iadd, 1, []), (25, .istore_n 1, 1, []), (26, .iinc 2 1, 3, []), (29, .goto (-25), 3, [4]), (32, .iload_n 1, 1, []), (33, .ireturn, 1, [0])]
def jm_p_X10_count : List jm_E := [(0, .iconst 0, 1, []), (1, .istore_n 2, 1, []), (2, .iload_n 1, 1, []), (3, .tableswitch 120 0 7 #[45, 78, 85, 92, 99, 105, 110, 115], 45, [0, 4, 1, 24, 2, 29, 3, 34, 4, 39, 5, 43, 6, 46, 7, 49, 52]), (48, .iconst 0, 1, []), (49, .istore_n 3, 1, []), (50, .iload_n 3, 1, []), (51, .bipush 8, 2, []), (53, .if_icmp .ge 26, 3, [22]), (56, .iload_n 2, 1, []), (57, .aload_n 0, 1, []), (58, .getfield 20, 3, [10, 5, 2]), (61, .iload_n 3, 1, []), (62, .iaload, 1, []), (63, .ifCond .ge 7, 3, [17]), (66, .iconst 0, 1, []), (67, .goto 4, 3, [18]), (70, .iconst 1, 1, []), (71, .iadd, 1, []), (72, .istore_n 2, 1, []), (73, .iinc 3 1, 3, []), (76, .goto (-26), 3, [6]), (79, .iload_n 2, 1, []), (80, .ireturn, 1, [0]), (81, .aload_n 0, 1, []), (82, .getfield 7, 3, [10, 0, 2]), (85, .iconst 0, 1, []), (86, .iaload, 1, []), (87, .ireturn, 1, [0]), (88, .aload_n 0, 1, []), (89, .getfield 7, 3, [10, 0, 2]), (92, .iconst 1, 1, []), (93, .iaload, 1, []), (94, .ireturn, 1, [0]), (95, .aload_n 0, 1, []), (96, .getfield 7, 3, [10, 0, 2]), (99, .iconst 2, 1, []), (100, .iaload, 1, []), (101, .ireturn, 1, [0]), (102, .aload_n 0, 1, []), (103, .iconst 0, 1, []), (104, .invokevirtual 230, 3, [167, 1, 10]), (107, .ireturn, 1, [0]), (108, .aload_n 0, 1, []), (109, .invokevirtual 266, 3, [220, 0, 10]), (112, .ireturn, 1, [0]), (113, .aload_n 0, 1, []), (114, .getfield 137, 3, [10, 2, 0]), (117, .ireturn, 1, [0]), (118, .aload_n 0, 1, []), (119, .getfield 73, 3, [10, 8, 0]), (122, .ireturn, 1, [0]), (123, .ldc 55, 2, [-1000001]), (125, .ireturn, 1, [0])]
def jm_p_X10_status : List jm_E := [(0, .aload_n 0, 1, []), (1, .getfield 38, 3, [10, 10, 0]), (4, .ireturn, 1, [0])]
def jm_p_J6_bitCount_0f7a4 : List jm_E := [(0, .iload_n 0, 1, []), (1, .iload_n 0, 1, []), (2, .iconst 1, 1, []), (3, .iushr, 1, []), (4, .ldc_w 265, 3, [1431655765]), (7, .iand, 1, []), (8, .isub, 1, []), (9, .istore_n 0, 1, []), (10, .iload_n 0, 1, []), (11, .ldc_w 266, 3, [858993459]), (14, .iand, 1, []), (15, .iload_n 0, 1, []), (16, .iconst 2, 1, []), (17, .iushr, 1, []), (18, .ldc_w 266, 3, [858993459]), (21, .iand, 1, []), (22, .iadd, 1, []), (23, .istore_n 0, 1, []), (24, .iload_n 0, 1, []), (25, .iload_n 0, 1, []), (26, .iconst 4, 1, []), (27, .iushr, 1, []), (28, .iadd, 1, []), (29, .ldc_w 267, 3, [252645135]), (32, .iand, 1, []), (33, .istore_n 0, 1, []), (34, .iload_n 0, 1, []), (35, .iload_n 0, 1, []), (36, .bipush 8, 2, []), (38, .iushr, 1, []), (39, .iadd, 1, []), (40, .istore_n 0, 1, []), (41, .iload_n 0, 1, []), (42, .iload_n 0, 1, []), (43, .bipush 16, 2, []), (45, .iushr, 1, []), (46, .iadd, 1, []), (47, .istore_n 0, 1, []), (48, .iload_n 0, 1, []), (49, .bipush 63, 2, []), (51, .iand, 1, []), (52, .ireturn, 1, [0])]
def jm_p_L_law : List jm_E := [(0, .new 7, 3, [9, 12]), (3, .dup, 1, []), (4, .invokespecial 9, 3, [87, 93, 1817]), (7, .astore_n 1, 1, []), (8, .new 10, 3, [10, 18]), (11, .dup, 1, []), (12, .invokespecial 12, 3, [134, 9, 2202]), (15, .astore_n 2, 1, []), (16, .iconst 0, 1, []), (17, .istore_n 3, 1, []), (18, .iload_n 3, 1, []), (19, .aload_n 0, 1, []), (20, .arraylength, 1, []), (21, .bipush 6, 2, []), (23, .isub, 1, []), (24, .if_icmp .gt 1212, 3, [846]), (27, .aload_n 0, 1, []), (28, .iload_n 3, 1, []), (29, .iaload, 1, []), (30, .bipush 63, 2, []), (32, .iand, 1, []), (33, .tableswitch 1197 0 35 #[159, 202, 245, 308, 331, 354, 367, 380, 403, 426, 449, 472, 485, 518, 551, 584, 617, 650, 673, 686, 709, 732, 775, 798, 831, 864, 917, 960, 1003, 1026, 1049, 1072, 1105, 1138, 1161, 1184], 159, [0, 22, 1, 59, 2, 96, 3, 153, 4, 170, 5, 187, 6, 194, 7, 201, 8, 218, 9, 235, 10, 252, 11, 269, 12, 276, 13, 303, 14, 330, 15, 357, 16, 384, 17, 411, 18, 428, 19, 435, 20, 452, 21, 469, 22, 506, 23, 523, 24, 550, 25, 577, 26, 624, 27, 661, 28, 698, 29, 715, 30, 732, 31, 749, 32, 776, 33, 803, 34, 820, 35, 837, 844]), (192, .aload_n 1, 1, []), (193, .aload_n 0, 1, []), (194, .iload_n 3, 1, []), (195, .iconst 1, 1, []), (196, .iadd, 1, []), (197, .iaload, 1, []), (198, .aload_n 0, 1, []), (199, .iload_n 3, 1, []), (200, .iconst 2, 1, []), (201, .iadd, 1, []), (202, .iaload, 1, []), (203, .aload_n 0, 1, []), (204, .iload_n 3, 1, []), (205, .iconst 3, 1, []), (206, .iadd, 1, []), (207, .iaload, 1, []), (208, .invokevirtual 13, 3, [88, 3, 9]), (211, .aload_n 2, 1, []), (212, .aload_n 0, 1, []), (213, .iload_n 3, 1, []), (214, .iconst 1, 1, []), (215, .iadd, 1, []), (216, .iaload, 1, []), (217, .aload_n 0, 1, []), (218, .iload_n 3, 1, []), (219, .iconst 2, 1, []), (220, .iadd, 1, []), (221, .iaload, 1, []), (222, .aload_n 0, 1, []), (223, .iload_n 3, 1, []), (224, .iconst 3, 1, []), (225, .iadd, 1, []), (226, .iaload, 1, []), (227, .invokevirtual 17, 3, [141, 3, 10]), (230, .if_icmp .eq 1000, 3, [844]), (233, .iconst 0, 1, []), (234, .ireturn, 1, [1]), (235, .aload_n 1, 1, []), (236, .aload_n 0, 1, []), (237, .iload_n 3, 1, []), (238, .iconst 1, 1, []), (239, .iadd, 1, []), (240, .iaload, 1, []), (241, .aload_n 0, 1, []), (242, .iload_n 3, 1, []), (243, .iconst 2, 1, []), (244, .iadd, 1, []), (245, .iaload, 1, []), (246, .aload_n 0, 1, []), (247, .iload_n 3, 1, []), (248, .iconst 3, 1, []), (249, .iadd, 1, []), (250, .iaload, 1, []), (251, .invokevirtual 18, 3, [89, 3, 9]), (254, .aload_n 2, 1, []), (255, .aload_n 0, 1, []), (256, .iload_n 3, 1, []), (257, .iconst 1, 1, []), (258, .iadd, 1, []), (259, .iaload, 1, []), (260, .aload_n 0, 1, []), (261, .iload_n 3, 1, []), (262, .iconst 2, 1, []), (263, .iadd, 1, []), (264, .iaload, 1, []), (265, .aload_n 0, 1, []), (266, .iload_n 3, 1, []), (267, .iconst 3, 1, []), (268, .iadd, 1, []), (269, .iaload, 1, []), (270, .invokevirtual 21, 3, [143, 3, 10]), (273, .if_icmp .eq 957, 3, [844]), (276, .iconst 0, 1, []), (277, .ireturn, 1, [1]), (278, .aload_n 1, 1, []), (279, .aload_n 0, 1, []), (280, .iload_n 3, 1, []), (281, .iconst 1, 1, []), (282, .iadd, 1, []), (283, .iaload, 1, []), (284, .aload_n 0, 1, []), (285, .iload_n 3, 1, []), (286, .iconst 2, 1, []), (287, .iadd, 1, []), (288, .iaload, 1, []), (289, .aload_n 0, 1, []), (290, .iload_n 3, 1, []), (291, .iconst 3, 1, []), (292, .iadd, 1, []), (293, .iaload, 1, []), (294, .aload_n 0, 1, []), (295, .iload_n 3, 1, []), (296, .iconst 4, 1, []), (297, .iadd, 1, []), (298, .iaload, 1, []), (299, .aload_n 0, 1, []), (300, .iload_n 3, 1, []), (301, .iconst 5, 1, []), (302, .iadd, 1, []), (303, .iaload, 1, []), (304, .invokevirtual 22, 3, [90, 5, 9]), (307, .aload_n 2, 1, []), (308, .aload_n 0, 1, []), (309, .iload_n 3, 1, []), (310, .iconst 1, 1, []), (311, .iadd, 1, []), (312, .iaload, 1, []), (313, .aload_n 0, 1, []), (314, .iload_n 3, 1, []), (315, .iconst 2, 1, []), (316, .iadd, 1, []), (317, .iaload, 1, []), (318, .aload_n 0, 1, []), (319, .iload_n 3, 1, []), (320, .iconst 3, 1, []), (321, .iadd, 1, []), (322, .iaload, 1, []), (323, .aload_n 0, 1, []), (324, .iload_n 3, 1, []), (325, .iconst 4, 1, []), (326, .iadd, 1, []), (327, .iaload, 1, []), (328, .aload_n 0, 1, []), (329, .iload_n 3, 1, []), (330, .iconst 5, 1, []), (331, .iadd, 1, []), (332, .iaload, 1, []), (333, .invokevirtual 26, 3, [145, 5, 10]), (336, .if_icmp .eq 894, 3, [844]), (339, .iconst 0, 1, []), (340, .ireturn, 1, [1]), (341, .aload_n 1, 1, []), (342, .aload_n 0, 1, []), (343, .iload_n 3, 1, []), (344, .iconst 1, 1, []), (345, .iadd, 1, []), (346, .iaload, 1, []), (347, .invokevirtual 27, 3, [91, 1, 9]), (350, .aload_n 2, 1, []), (351, .aload_n 0, 1, []), (352, .iload_n 3, 1, []), (353, .iconst 1, 1, []), (354, .iadd, 1, []), (355, .iaload, 1, []), (356, .invokevirtual 31, 3, [146, 1, 10]), (359, .if_icmp .eq 871, 3, [844]), (362, .iconst 0, 1, []), (363, .ireturn, 1, [1]), (364, .aload_n 1, 1, []), (365, .aload_n 0, 1, []), (366, .iload_n 3, 1, []), (367, .iconst 1, 1, []), (368, .iadd, 1, []), (369, .iaload, 1, []), (370, .invokevirtual 32, 3, [92, 1, 9]), (373, .aload_n 2, 1, []), (374, .aload_n 0, 1, []), (375, .iload_n 3, 1, []), (376, .iconst 1, 1, []), (377, .iadd, 1, []), (378, .iaload, 1, []), (379, .invokevirtual 35, 3, [147, 1, 10]), (382, .if_icmp .eq 848, 3, [844]), (385, .iconst 0, 1, []), (386, .ireturn, 1, [1]), (387, .aload_n 1, 1, []), (388, .invokevirtual 36, 3, [93, 0, 9]), (391, .aload_n 2, 1, []), (392, .invokevirtual 40, 3, [159, 0, 10]), (395, .if_icmp .eq 835, 3, [844]), (398, .iconst 0, 1, []), (399, .ireturn, 1, [1]), (400, .aload_n 1, 1, []), (401, .invokevirtual 41, 3, [94, 0, 9]), (404, .aload_n 2, 1, []), (405, .invokevirtual 44, 3, [160, 0, 10]), (408, .if_icmp .eq 822, 3, [844]), (411, .iconst 0, 1, []), (412, .ireturn, 1, [1]), (413, .aload_n 1, 1, []), (414, .aload_n 0, 1, []), (415, .iload_n 3, 1, []), (416, .iconst 1, 1, []), (417, .iadd, 1, []), (418, .iaload, 1, []), (419, .invokevirtual 45, 3, [95, 1, 9]), (422, .aload_n 2, 1, []), (423, .aload_n 0, 1, []), (424, .iload_n 3, 1, []), (425, .iconst 1, 1, []), (426, .iadd, 1, []), (427, .iaload, 1, []), (428, .invokevirtual 48, 3, [172, 1, 10]), (431, .if_icmp .eq 799, 3, [844]), (434, .iconst 0, 1, []), (435, .ireturn, 1, [1]), (436, .aload_n 1, 1, []), (437, .aload_n 0, 1, []), (438, .iload_n 3, 1, []), (439, .iconst 1, 1, []), (440, .iadd, 1, []), (441, .iaload, 1, []), (442, .invokevirtual 49, 3, [96, 1, 9]), (445, .aload_n 2, 1, []), (446, .aload_n 0, 1, []), (447, .iload_n 3, 1, []), (448, .iconst 1, 1, []), (449, .iadd, 1, []), (450, .iaload, 1, []), (451, .invokevirtual 52, 3, [173, 1, 10]), (454, .if_icmp .eq 776, 3, [844]), (457, .iconst 0, 1, []), (458, .ireturn, 1, [1]), (459, .aload_n 1, 1, []), (460, .aload_n 0, 1, []), (461, .iload_n 3, 1, []), (462, .iconst 1, 1, []), (463, .iadd, 1, []), (464, .iaload, 1, []), (465, .invokevirtual 53, 3, [97, 1, 9]), (468, .aload_n 2, 1, []), (469, .aload_n 0, 1, []), (470, .iload_n 3, 1, []), (471, .iconst 1, 1, []), (472, .iadd, 1, []), (473, .iaload, 1, []), (474, .invokevirtual 56, 3, [175, 1, 10]), (477, .if_icmp .eq 753, 3, [844]), (480, .iconst 0, 1, []), (481, .ireturn, 1, [1]), (482, .aload_n 1, 1, []), (483, .aload_n 0, 1, []), (484, .iload_n 3, 1, []), (485, .iconst 1, 1, []), (486, .iadd, 1, []), (487, .iaload, 1, []), (488, .invokevirtual 57, 3, [98, 1, 9]), (491, .aload_n 2, 1, []), (492, .aload_n 0, 1, []), (493, .iload_n 3, 1, []), (494, .iconst 1, 1, []), (495, .iadd, 1, []), (496, .iaload, 1, []), (497, .invokevirtual 60, 3, [176, 1, 10]), (500, .if_icmp .eq 730, 3, [844]), (503, .iconst 0, 1, []), (504, .ireturn, 1, [1]), (505, .aload_n 1, 1, []), (506, .invokevirtual 61, 3, [99, 0, 9]), (509, .aload_n 2, 1, []), (510, .invokevirtual 64, 3, [163, 0, 10]), (513, .if_icmp .eq 717, 3, [844]), (516, .iconst 0, 1, []), (517, .ireturn, 1, [1]), (518, .aload_n 1, 1, []), (519, .aload_n 0, 1, []), (520, .iload_n 3, 1, []), (521, .iconst 1, 1, []), (522, .iadd, 1, []), (523, .iaload, 1, []), (524, .aload_n 0, 1, []), (525, .iload_n 3, 1, []), (526, .iconst 2, 1, []), (527, .iadd, 1, []), (528, .iaload, 1, []), (529, .invokevirtual 65, 3, [100, 2, 9]), (532, .aload_n 2, 1, []), (533, .aload_n 0, 1, []), (534, .iload_n 3, 1, []), (535, .iconst 1, 1, []), (536, .iadd, 1, []), (537, .iaload, 1, []), (538, .aload_n 0, 1, []), (539, .iload_n 3, 1, []), (540, .iconst 2, 1, []), (541, .iadd, 1, []), (542, .iaload, 1, []), (543, .invokevirtual 69, 3, [177, 2, 10]), (546, .if_icmp .eq 684, 3, [844]), (549, .iconst 0, 1, []), (550, .ireturn, 1, [1]), (551, .aload_n 1, 1, []), (552, .aload_n 0, 1, []), (553, .iload_n 3, 1, []), (554, .iconst 1, 1, []), (555, .iadd, 1, []), (556, .iaload, 1, []), (557, .aload_n 0, 1, []), (558, .iload_n 3, 1, []), (559, .iconst 2, 1, []), (560, .iadd, 1, []), (561, .iaload, 1, []), (562, .invokevirtual 70, 3, [101, 2, 9]), (565, .aload_n 2, 1, []), (566, .aload_n 0, 1, []), (567, .iload_n 3, 1, []), (568, .iconst 1, 1, []), (569, .iadd, 1, []), (570, .iaload, 1, []), (571, .aload_n 0, 1, []), (572, .iload_n 3, 1, []), (573, .iconst 2, 1, []), (574, .iadd, 1, []), (575, .iaload, 1, []), (576, .invokevirtual 73, 3, [179, 2, 10]), (579, .if_icmp .eq 651, 3, [844]), (582, .iconst 0, 1, []), (583, .ireturn, 1, [1]), (584, .aload_n 1, 1, []), (585, .aload_n 0, 1, []), (586, .iload_n 3, 1, []), (587, .iconst 1, 1, []), (588, .iadd, 1, []), (589, .iaload, 1, []), (590, .aload_n 0, 1, []), (591, .iload_n 3, 1, []), (592, .iconst 2, 1, []), (593, .iadd, 1, []), (594, .iaload, 1, []), (595, .invokevirtual 74, 3, [102, 2, 9]), (598, .aload_n 2, 1, []), (599, .aload_n 0, 1, []), (600, .iload_n 3, 1, []), (601, .iconst 1, 1, []), (602, .iadd, 1, []), (603, .iaload, 1, []), (604, .aload_n 0, 1, []), (605, .iload_n 3, 1, []), (606, .iconst 2, 1, []), (607, .iadd, 1, []), (608, .iaload, 1, []), (609, .invokevirtual 77, 3, [180, 2, 10]), (612, .if_icmp .eq 618, 3, [844]), (615, .iconst 0, 1, []), (616, .ireturn, 1, [1]), (617, .aload_n 1, 1, []), (618, .aload_n 0, 1, []), (619, .iload_n 3, 1, []), (620, .iconst 1, 1, []), (621, .iadd, 1, []), (622, .iaload, 1, []), (623, .aload_n 0, 1, []), (624, .iload_n 3, 1, []), (625, .iconst 2, 1, []), (626, .iadd, 1, []), (627, .iaload, 1, []), (628, .invokevirtual 78, 3, [103, 2, 9]), (631, .aload_n 2, 1, []), (632, .aload_n 0, 1, []), (633, .iload_n 3, 1, []), (634, .iconst 1, 1, []), (635, .iadd, 1, []), (636, .iaload, 1, []), (637, .aload_n 0, 1, []), (638, .iload_n 3, 1, []), (639, .iconst 2, 1, []), (640, .iadd, 1, []), (641, .iaload, 1, []), (642, .invokevirtual 81, 3, [181, 2, 10]), (645, .if_icmp .eq 585, 3, [844]), (648, .iconst 0, 1, []), (649, .ireturn, 1, [1]), (650, .aload_n 1, 1, []), (651, .aload_n 0, 1, []), (652, .iload_n 3, 1, []), (653, .iconst 1, 1, []), (654, .iadd, 1, []), (655, .iaload, 1, []), (656, .aload_n 0, 1, []), (657, .iload_n 3, 1, []), (658, .iconst 2, 1, []), (659, .iadd, 1, []), (660, .iaload, 1, []), (661, .invokevirtual 82, 3, [104, 2, 9]), (664, .aload_n 2, 1, []), (665, .aload_n 0, 1, []), (666, .iload_n 3, 1, []), (667, .iconst 1, 1, []), (668, .iadd, 1, []), (669, .iaload, 1, []), (670, .aload_n 0, 1, []), (671, .iload_n 3, 1, []), (672, .iconst 2, 1, []), (673, .iadd, 1, []), (674, .iaload, 1, []), (675, .invokevirtual 85, 3, [184, 2, 10]), (678, .if_icmp .eq 552, 3, [844]), (681, .iconst 0, 1, []), (682, .ireturn, 1, [1]), (683, .aload_n 1, 1, []), (684, .aload_n 0, 1, []), (685, .iload_n 3, 1, []), (686, .iconst 1, 1, []), (687, .iadd, 1, []), (688, .iaload, 1, []), (689, .invokevirtual 86, 3, [105, 1, 9]), (692, .aload_n 2, 1, []), (693, .aload_n 0, 1, []), (694, .iload_n 3, 1, []), (695, .iconst 1, 1, []), (696, .iadd, 1, []), (697, .iaload, 1, []), (698, .invokevirtual 89, 3, [185, 1, 10]), (701, .if_icmp .eq 529, 3, [844]), (704, .iconst 0, 1, []), (705, .ireturn, 1, [1]), (706, .aload_n 1, 1, []), (707, .invokevirtual 90, 3, [106, 0, 9]), (710, .aload_n 2, 1, []), (711, .invokevirtual 93, 3, [186, 0, 10]), (714, .if_icmp .eq 516, 3, [844]), (717, .iconst 0, 1, []), (718, .ireturn, 1, [1]), (719, .aload_n 1, 1, []), (720, .aload_n 0, 1, []), (721, .iload_n 3, 1, []), (722, .iconst 1, 1, []), (723, .iadd, 1, []), (724, .iaload, 1, []), (725, .invokevirtual 94, 3, [107, 1, 9]), (728, .aload_n 2, 1, []), (729, .aload_n 0, 1, []), (730, .iload_n 3, 1, []), (731, .iconst 1, 1, []), (732, .iadd, 1, []), (733, .iaload, 1, []), (734, .invokevirtual 97, 3, [192, 1, 10]), (737, .if_icmp .eq 493, 3, [844]), (740, .iconst 0, 1, []), (741, .ireturn, 1, [1]), (742, .aload_n 1, 1, []), (743, .aload_n 0, 1, []), (744, .iload_n 3, 1, []), (745, .iconst 1, 1, []), (746, .iadd, 1, []), (747, .iaload, 1, []), (748, .invokevirtual 98, 3, [108, 1, 9]), (751, .aload_n 2, 1, []), (752, .aload_n 0, 1, []), (753, .iload_n 3, 1, []), (754, .iconst 1, 1, []), (755, .iadd, 1, []), (756, .iaload, 1, []), (757, .invokevirtual 101, 3, [194, 1, 10]), (760, .if_icmp .eq 470, 3, [844]), (763, .iconst 0, 1, []), (764, .ireturn, 1, [1]), (765, .aload_n 1, 1, []), (766, .aload_n 0, 1, []), (767, .iload_n 3, 1, []), (768, .iconst 1, 1, []), (769, .iadd, 1, []), (770, .iaload, 1, []), (771, .aload_n 0, 1, []), (772, .iload_n 3, 1, []), (773, .iconst 2, 1, []), (774, .iadd, 1, []), (775, .iaload, 1, []), (776, .aload_n 0, 1, []), (777, .iload_n 3, 1, []), (778, .iconst 3, 1, []), (779, .iadd, 1, []), (780, .iaload, 1, []), (781, .invokevirtual 102, 3, [109, 3, 9]), (784, .aload_n 2, 1, []), (785, .aload_n 0, 1, []), (786, .iload_n 3, 1, []), (787, .iconst 1, 1, []), (788, .iadd, 1, []), (789, .iaload, 1, []), (790, .aload_n 0, 1, []), (791, .iload_n 3, 1, []), (792, .iconst 2, 1, []), (793, .iadd, 1, []), (794, .iaload, 1, []), (795, .aload_n 0, 1, []), (796, .iload_n 3, 1, []), (797, .iconst 3, 1, []), (798, .iadd, 1, []), (799, .iaload, 1, []), (800, .invokevirtual 105, 3, [195, 3, 10]), (803, .if_icmp .eq 427, 3, [844]), (806, .iconst 0, 1, []), (807, .ireturn, 1, [1]), (808, .aload_n 1, 1, []), (809, .aload_n 0, 1, []), (810, .iload_n 3, 1, []), (811, .iconst 1, 1, []), (812, .iadd, 1, []), (813, .iaload, 1, []), (814, .invokevirtual 106, 3, [110, 1, 9]), (817, .aload_n 2, 1, []), (818, .aload_n 0, 1, []), (819, .iload_n 3, 1, []), (820, .iconst 1, 1, []), (821, .iadd, 1, []), (822, .iaload, 1, []), (823, .invokevirtual 109, 3, [196, 1, 10]), (826, .if_icmp .eq 404, 3, [844]), (829, .iconst 0, 1, []), (830, .ireturn, 1, [1]), (831, .aload_n 1, 1, []), (832, .aload_n 0, 1, []), (833, .iload_n 3, 1, []), (834, .iconst 1, 1, []), (835, .iadd, 1, []), (836, .iaload, 1, []), (837, .aload_n 0, 1, []), (838, .iload_n 3, 1, []), (839, .iconst 2, 1, []), (840, .iadd, 1, []), (841, .iaload, 1, []), (842, .invokevirtual 110, 3, [111, 2, 9]), (845, .aload_n 2, 1, []), (846, .aload_n 0, 1, []), (847, .iload_n 3, 1, []), (848, .iconst 1, 1, []), (849, .iadd, 1, []), (850, .iaload, 1, []), (851, .aload_n 0, 1, []), (852, .iload_n 3, 1, []), (853, .iconst 2, 1, []), (854, .iadd, 1, []), (855, .iaload, 1, []), (856, .invokevirtual 113, 3, [197, 2, 10]), (859, .if_icmp .eq 371, 3, [844]), (862, .iconst 0, 1, []), (863, .ireturn, 1, [1]), (864, .aload_n 1, 1, []), (865, .aload_n 0, 1, []), (866, .iload_n 3, 1, []), (867, .iconst 1, 1, []), (868, .iadd, 1, []), (869, .iaload, 1, []), (870, .aload_n 0, 1, []), (871, .iload_n 3, 1, []), (872, .iconst 2, 1, []), (873, .iadd, 1, []), (874, .iaload, 1, []), (875, .invokevirtual 114, 3, [112, 2, 9]), (878, .aload_n 2, 1, []), (879, .aload_n 0, 1, []), (880, .iload_n 3, 1, []), (881, .iconst 1, 1, []), (882, .iadd, 1, []), (883, .iaload, 1, []), (884, .aload_n 0, 1, []), (885, .iload_n 3, 1, []), (886, .iconst 2, 1, []), (887, .iadd, 1, []), (888, .iaload, 1, []), (889, .invokevirtual 117, 3, [200, 2, 10]), (892, .if_icmp .eq 338, 3, [844]), (895, .iconst 0, 1, []), (896, .ireturn, 1, [1]), (897, .aload_n 1, 1, []), (898, .aload_n 0, 1, []), (899, .iload_n 3, 1, []), (900, .iconst 1, 1, []), (901, .iadd, 1, []), (902, .iaload, 1, []), (903, .aload_n 0, 1, []), (904, .iload_n 3, 1, []), (905, .iconst 2, 1, []), (906, .iadd, 1, []), (907, .iaload, 1, []), (908, .aload_n 0, 1, []), (909, .iload_n 3, 1, []), (910, .iconst 3, 1, []), (911, .iadd, 1, []), (912, .iaload, 1, []), (913, .aload_n 0, 1, []), (914, .iload_n 3, 1, []), (915, .iconst 4, 1, []), (916, .iadd, 1, []), (917, .iaload, 1, []), (918, .invokevirtual 118, 3, [113, 4, 9]), (921, .aload_n 2, 1, []), (922, .aload_n 0, 1, []), (923, .iload_n 3, 1, []), (924, .iconst 1, 1, []), (925, .iadd, 1, []), (926, .iaload, 1, []), (927, .aload_n 0, 1, []), (928, .iload_n 3, 1, []), (929, .iconst 2, 1, []), (930, .iadd, 1, []), (931, .iaload, 1, []), (932, .aload_n 0, 1, []), (933, .iload_n 3, 1, []), (934, .iconst 3, 1, []), (935, .iadd, 1, []), (936, .iaload, 1, []), (937, .aload_n 0, 1, []), (938, .iload_n 3, 1, []), (939, .iconst 4, 1, []), (940, .iadd, 1, []), (941, .iaload, 1, []), (942, .invokevirtual 122, 3, [201, 4, 10]), (945, .if_icmp .eq 285, 3, [844]), (948, .iconst 0, 1, []), (949, .ireturn, 1, [1]), (950, .aload_n 1, 1, []), (951, .aload_n 0, 1, []), (952, .iload_n 3, 1, []), (953, .iconst 1, 1, []), (954, .iadd, 1, []), (955, .iaload, 1, []), (956, .aload_n 0, 1, []), (957, .iload_n 3, 1, []), (958, .iconst 2, 1, []), (959, .iadd, 1, []), (960, .iaload, 1, []), (961, .aload_n 0, 1, []), (962, .iload_n 3, 1, []), (963, .iconst 3, 1, []), (964, .iadd, 1, []), (965, .iaload, 1, []), (966, .invokevirtual 123, 3, [114, 3, 9]), (969, .aload_n 2, 1, []), (970, .aload_n 0, 1, []), (971, .iload_n 3, 1, []), (972, .iconst 1, 1, []), (973, .iadd, 1, []), (974, .iaload, 1, []), (975, .aload_n 0, 1, []), (976, .iload_n 3, 1, []), (977, .iconst 2, 1, []), (978, .iadd, 1, []), (979, .iaload, 1, []), (980, .aload_n 0, 1, []), (981, .iload_n 3, 1, []), (982, .iconst 3, 1, []), (983, .iadd, 1, []), (984, .iaload, 1, []), (985, .invokevirtual 126, 3, [202, 3, 10]), (988, .if_icmp .eq 242, 3, [844]), (991, .iconst 0, 1, []), (992, .ireturn, 1, [1]), (993, .aload_n 1, 1, []), (994, .aload_n 0, 1, []), (995, .iload_n 3, 1, []), (996, .iconst 1, 1, []), (997, .iadd, 1, []), (998, .iaload, 1, []), (999, .aload_n 0, 1, []), (1000, .iload_n 3, 1, []), (1001, .iconst 2, 1, []), (1002, .iadd, 1, []), (1003, .iaload, 1, []), (1004, .aload_n 0, 1, []), (1005, .iload_n 3, 1, []), (1006, .iconst 3, 1, []), (1007, .iadd, 1, []), (1008, .iaload, 1, []), (1009, .invokevirtual 127, 3, [115, 3, 9]), (1012, .aload_n 2, 1, []), (1013, .aload_n 0, 1, []), (1014, .iload_n 3, 1, []), (1015, .iconst 1, 1, []), (1016, .iadd, 1, []), (1017, .iaload, 1, []), (1018, .aload_n 0, 1, []), (1019, .iload_n 3, 1, []), (1020, .iconst 2, 1, []), (1021, .iadd, 1, []), (1022, .iaload, 1, []), (1023, .aload_n 0, 1, []), (1024, .iload_n 3, 1, []), (1025, .iconst 3, 1, []), (1026, .iadd, 1, []), (1027, .iaload, 1, []), (1028, .invokevirtual 130, 3, [203, 3, 10]), (1031, .if_icmp .eq 199, 3, [844]), (1034, .iconst 0, 1, []), (1035, .ireturn, 1, [1]), (1036, .aload_n 1, 1, []), (1037, .aload_n 0, 1, []), (1038, .iload_n 3, 1, []), (1039, .iconst 1, 1, []), (1040, .iadd, 1, []), (1041, .iaload, 1, []), (1042, .invokevirtual 131, 3, [116, 1, 9]), (1045, .aload_n 2, 1, []), (1046, .aload_n 0, 1, []), (1047, .iload_n 3, 1, []), (1048, .iconst 1, 1, []), (1049, .iadd, 1, []), (1050, .iaload, 1, []), (1051, .invokevirtual 134, 3, [204, 1, 10]), (1054, .if_icmp .eq 176, 3, [844]), (1057, .iconst 0, 1, []), (1058, .ireturn, 1, [1]), (1059, .aload_n 1, 1, []), (1060, .aload_n 0, 1, []), (1061, .iload_n 3, 1, []), (1062, .iconst 1, 1, []), (1063, .iadd, 1, []), (1064, .iaload, 1, []), (1065, .invokevirtual 135, 3, [117, 1, 9]), (1068, .aload_n 2, 1, []), (1069, .aload_n 0, 1, []), (1070, .iload_n 3, 1, []), (1071, .iconst 1, 1, []), (1072, .iadd, 1, []), (1073, .iaload, 1, []), (1074, .invokevirtual 138, 3, [205, 1, 10]), (1077, .if_icmp .eq 153, 3, [844]), (1080, .iconst 0, 1, []), (1081, .ireturn, 1, [1]), (1082, .aload_n 1, 1, []), (1083, .aload_n 0, 1, []), (1084, .iload_n 3, 1, []), (1085, .iconst 1, 1, []), (1086, .iadd, 1, []), (1087, .iaload, 1, []), (1088, .invokevirtual 139, 3, [118, 1, 9]), (1091, .aload_n 2, 1, []), (1092, .aload_n 0, 1, []), (1093, .iload_n 3, 1, []), (1094, .iconst 1, 1, []), (1095, .iadd, 1, []), (1096, .iaload, 1, []), (1097, .invokevirtual 142, 3, [206, 1, 10]), (1100, .if_icmp .eq 130, 3, [844]), (1103, .iconst 0, 1, []), (1104, .ireturn, 1, [1]), (1105, .aload_n 1, 1, []), (1106, .aload_n 0, 1, []), (1107, .iload_n 3, 1, []), (1108, .iconst 1, 1, []), (1109, .iadd, 1, []), (1110, .iaload, 1, []), (1111, .aload_n 0, 1, []), (1112, .iload_n 3, 1, []), (1113, .iconst 2, 1, []), (1114, .iadd, 1, []), (1115, .iaload, 1, []), (1116, .invokevirtual 143, 3, [119, 2, 9]), (1119, .aload_n 2, 1, []), (1120, .aload_n 0, 1, []), (1121, .iload_n 3, 1, []), (1122, .iconst 1, 1, []), (1123, .iadd, 1, []), (1124, .iaload, 1, []), (1125, .aload_n 0, 1, []), (1126, .iload_n 3, 1, []), (1127, .iconst 2, 1, []), (1128, .iadd, 1, []), (1129, .iaload, 1, []), (1130, .invokevirtual 146, 3, [208, 2, 10]), (1133, .if_icmp .eq 97, 3, [844]), (1136, .iconst 0, 1, []), (1137, .ireturn, 1, [1]), (1138, .aload_n 1, 1, []), (1139, .aload_n 0, 1, []), (1140, .iload_n 3, 1, []), (1141, .iconst 1, 1, []), (1142, .iadd, 1, []), (1143, .iaload, 1, []), (1144, .aload_n 0, 1, []), (1145, .iload_n 3, 1, []), (1146, .iconst 2, 1, []), (1147, .iadd, 1, []), (1148, .iaload, 1, []), (1149, .invokevirtual 147, 3, [120, 2, 9]), (1152, .aload_n 2, 1, []), (1153, .aload_n 0, 1, []), (1154, .iload_n 3, 1, []), (1155, .iconst 1, 1, []), (1156, .iadd, 1, []), (1157, .iaload, 1, []), (1158, .aload_n 0, 1, []), (1159, .iload_n 3, 1, []), (1160, .iconst 2, 1, []), (1161, .iadd, 1, []), (1162, .iaload, 1, []), (1163, .invokevirtual 150, 3, [218, 2, 10]), (1166, .if_icmp .eq 64, 3, [844]), (1169, .iconst 0, 1, []), (1170, .ireturn, 1, [1]), (1171, .aload_n 1, 1, []), (1172, .aload_n 0, 1, []), (1173, .iload_n 3, 1, []), (1174, .iconst 1, 1, []), (1175, .iadd, 1, []), (1176, .iaload, 1, []), (1177, .invokevirtual 151, 3, [121, 1, 9]), (1180, .aload_n 2, 1, []), (1181, .aload_n 0, 1, []), (1182, .iload_n 3, 1, []), (1183, .iconst 1, 1, []), (1184, .iadd, 1, []), (1185, .iaload, 1, []), (1186, .invokevirtual 154, 3, [219, 1, 10]), (1189, .if_icmp .eq 41, 3, [844]), (1192, .iconst 0, 1, []), (1193, .ireturn, 1, [1]), (1194, .aload_n 1, 1, []), (1195, .aload_n 0, 1, []), (1196, .iload_n 3, 1, []), (1197, .iconst 1, 1, []), (1198, .iadd, 1, []), (1199, .iaload, 1, []), (1200, .invokevirtual 155, 3, [122, 1, 9]), (1203, .aload_n 2, 1, []), (1204, .aload_n 0, 1, []), (1205, .iload_n 3, 1, []), (1206, .iconst 1, 1, []), (1207, .iadd, 1, []), (1208, .iaload, 1, []), (1209, .invokevirtual 158, 3, [221, 1, 10]), (1212, .if_icmp .eq 18, 3, [844]), (1215, .iconst 0, 1, []), (1216, .ireturn, 1, [1]), (1217, .aload_n 1, 1, []), (1218, .invokevirtual 159, 3, [123, 0, 9]), (1221, .aload_n 2, 1, []), (1222, .invokevirtual 162, 3, [222, 0, 10]), (1225, .if_icmp .eq 5, 3, [844]), (1228, .iconst 0, 1, []), (1229, .ireturn, 1, [1]), (1230, .iinc 3 6, 3, []), (1233, .goto (-1215), 3, [10]), (1236, .iconst 1, 1, []), (1237, .ireturn, 1, [1])]
def jm_pp : List (List jm_E) := [jm_p_X0_init, jm_p_X0_answer, jm_p_X0_traced, jm_p_X0_bodyOf, jm_p_X0_leaveTrace, jm_p_X0_give, jm_p_X1_init, jm_p_X1_takeOver, jm_p_X1_wipes, jm_p_X1_isOf, jm_p_X2_init, jm_p_X2_cleanOnes, jm_p_X2_told, jm_p_X2_seekOrder, jm_p_X2_tryOrders, jm_p_X2_seekLaying, jm_p_X2_tryLayings, jm_p_X2_keepTried, jm_p_X2_fewestBeaten, jm_p_X2_carriedIfBeaten, jm_p_X2_uniters, jm_p_X2_bindsTo, jm_p_X2_culprits, jm_p_X2_tryAs, jm_p_X2_fitting, jm_p_X2_giveTrait, jm_p_X2_isSoBehind, jm_p_X2_likelihood, jm_p_X2_weight, jm_p_X2_commonDivisor, jm_p_X2_years, jm_p_X3_init, jm_p_X3_isEmpty, jm_p_X3_size, jm_p_X3_forget, jm_p_X3_keep, jm_p_X3_takeBack, jm_p_X4_init, jm_p_X4_clear, jm_p_X4_takeOver, jm_p_X4_writeCells, jm_p_X4_readCells, jm_p_X4_allComers, jm_p_X4_receive, jm_p_X4_swapWithNext, jm_p_X4_rainOnAll, jm_p_X4_areAtOne, jm_p_X4_pactCount, jm_p_X4_firstPact, jm_p_X4_lyingInAll, jm_p_X4_comings, jm_p_X5_init, jm_p_X5_lying, jm_p_X5_master, jm_p_X5_empty, jm_p_X5_takeOver, jm_p_X6_init, jm_p_X6_isFull, jm_p_X6_size, jm_p_X6_append, jm_p_X6_place, jm_p_X6_readInto, jm_p_X6_readLaw, jm_p_X6_readMats, jm_p_X6_readComers, jm_p_X6_readTraits, jm_p_X6_sortOf, jm_p_X6_seen, jm_p_X6_refuse, jm_p_X6_takeByte, jm_p_X6_takeNumber, jm_p_X6_isFigure, jm_p_X7_init, jm_p_X7_isMissing, jm_p_X7_sameLane, jm_p_X7_reaches, jm_p_X7_item, jm_p_X7_make, jm_p_X7_put, jm_p_X7_carryOver, jm_p_X7_remove, jm_p_X7_present, jm_p_X8_init, jm_p_X8_begin, jm_p_X8_goOver, jm_p_X8_allGoOver, jm_p_X8_lyingInAll, jm_p_X9_init, jm_p_X9_row, jm_p_X9_set, jm_p_X9_copy, jm_p_X9_drop, jm_p_X9_feed, jm_p_X9_hotel, jm_p_X9_fault, jm_p_X9_come, jm_p_X9_beat, jm_p_X9_change, jm_p_X9_rain, jm_p_X9_undo, jm_p_X9_comer, jm_p_X9_mat, jm_p_X9_soil, jm_p_X9_atOne, jm_p_X9_leaves, jm_p_X9_carries, jm_p_X9_clean, jm_p_X9_order, jm_p_X9_laying, jm_p_X9_beating, jm_p_X9_pacts, jm_p_X9_could, jm_p_X9_who, jm_p_X9_fits, jm_p_X9_absent, jm_p_X9_drawn, jm_p_X9_image, jm_p_X9_restore, jm_p_X9_kind, jm_p_X9_as, jm_p_X9_ask, jm_p_X9_trace, jm_p_X9_count, jm_p_X9_status, jm_p_X9_noRow, jm_p_X9_noImage, jm_p_X9_noCarried, jm_p_X9_neither, jm_p_X9_noHotel, jm_p_X9_noComer, jm_p_X9_noMat, jm_p_X9_found, jm_p_X9_unfound, jm_p_X9_matRowFinding, jm_p_X10_init, jm_p_X10_in, jm_p_X10_has, jm_p_X10_bits, jm_p_X10_find, jm_p_X10_well, jm_p_X10_isRow, jm_p_X10_row, jm_p_X10_narrow, jm_p_X10_set, jm_p_X10_isSpan, jm_p_X10_copy, jm_p_X10_drop, jm_p_X10_feed, jm_p_X10_isLetter, jm_p_X10_isFigure, jm_p_X10_refuse, jm_p_X10_sign, jm_p_X10_readsNumber, jm_p_X10_readsLaw, jm_p_X10_readsMat, jm_p_X10_kindOfLetter, jm_p_X10_readsComer, jm_p_X10_isSort, jm_p_X10_reads, jm_p_X10_hotel, jm_p_X10_fault, jm_p_X10_copyTown, jm_p_X10_keepPast, jm_p_X10_undo, jm_p_X10_isComer, jm_p_X10_isMat, jm_p_X10_liesOn, jm_p_X10_onAll, jm_p_X10_leavesOn, jm_p_X10_comesAt, jm_p_X10_beatsAt, jm_p_X10_areAtOne, jm_p_X10_come, jm_p_X10_beat, jm_p_X10_swapPlaces, jm_p_X10_change, jm_p_X10_rain, jm_p_X10_comer, jm_p_X10_masterOf, jm_p_X10_mat, jm_p_X10_soil, jm_p_X10_atOne, jm_p_X10_layTried, jm_p_X10_carriesIf, jm_p_X10_leaves, jm_p_X10_carries, jm_p_X10_clean, jm_p_X10_layLine, jm_p_X10_swapLine, jm_p_X10_takeLine, jm_p_X10_nextLine, jm_p_X10_comeAll, jm_p_X10_order, jm_p_X10_layMats, jm_p_X10_laying, jm_p_X10_beating, jm_p_X10_pacts, jm_p_X10_could, jm_p_X10_noItems, jm_p_X10_isSo, jm_p_X10_who, jm_p_X10_fits, jm_p_X10_absent, jm_p_X10_drawn, jm_p_X10_image, jm_p_X10_restore, jm_p_X10_kind, jm_p_X10_isOf, jm_p_X10_as, jm_p_X10_begin, jm_p_X10_lentSize, jm_p_X10_wiperSize, jm_p_X10_stamperSize, jm_p_X10_sizeOf, jm_p_X10_lentMark, jm_p_X10_wiperMark, jm_p_X10_mark, jm_p_X10_stamperMark, jm_p_X10_ask, jm_p_X10_trace, jm_p_X10_comings, jm_p_X10_count, jm_p_X10_status, jm_p_J6_bitCount_0f7a4]
def jm_PP (f : Nat) : List jm_E := jm_pp.getD f []
end
section
theorem jm_k_X0_init : jm_ckD 0 jm_p_X0_init = true ∧ jm_ckP 0 jm_p_X0_init = true ∧ jm_go jm_p_X0_init 0 0 = true := ⟨by decide +kernel, by decide +kernel, by decide +kernel⟩
theorem jm_k_X0_answer : jm_ckD 1 jm_p_X0_answer = true ∧ jm_ckP 1 jm_p_X0_answer = true ∧ jm_go jm_p_X0_answer 0 0 = true := ⟨by decide +kernel, by decide +kernel, by decide +kernel⟩
theorem jm_k_X0_traced : jm_ckD 2 jm_p_X0_traced = true ∧ jm_ckP 2 jm_p_X0_traced = true ∧ jm_go jm_p_X0_traced 0 0 = true := ⟨by decide +kernel, by decide +kernel, by decide +kernel⟩
theorem jm_k_X0_bodyOf : jm_ckD 3 jm_p_X0_bodyOf = true ∧ jm_ckP 3 jm_p_X0_bodyOf = true ∧ jm_go jm_p_X0_bodyOf 0 0 = true := ⟨by decide +kernel, by decide +kernel, by decide +kernel⟩
theorem jm_k_X0_leaveTrace : jm_ckD 4 jm_p_X0_leaveTrace = true ∧ jm_ckP 4 jm_p_X0_leaveTrace = true ∧ jm_go jm_p_X0_leaveTrace 0 0 = true := ⟨by decide +kernel, by decide +kernel, by decide +kernel⟩
theorem jm_k_X0_give : jm_ckD 5 jm_p_X0_give = true ∧ jm_ckP 5 jm_p_X0_give = true ∧ jm_go jm_p_X0_give 0 0 = true := ⟨by decide +kernel, by decide +kernel, by decide +kernel⟩
theorem jm_k_X1_init : jm_ckD 6 jm_p_X1_init = true ∧ jm_ckP 6 jm_p_X1_init = true ∧ jm_go jm_p_X1_init 0 0 = true := ⟨by decide +kernel, by decide +kernel, by decide +kernel⟩
theorem jm_k_X1_takeOver : jm_ckD 7 jm_p_X1_takeOver = true ∧ jm_ckP 7 jm_p_X1_takeOver = true ∧ jm_go jm_p_X1_takeOver 0 0 = true := ⟨by decide +kernel, by decide +kernel, by decide +kernel⟩
theorem jm_k_X1_wipes : jm_ckD 8 jm_p_X1_wipes = true ∧ jm_ckP 8 jm_p_X1_wipes = true ∧ jm_go jm_p_X1_wipes 0 0 = true := ⟨by decide +kernel, by decide +kernel, by decide +kernel⟩
theorem jm_k_X1_isOf : jm_ckD 9 jm_p_X1_isOf = true ∧ jm_ckP 9 jm_p_X1_isOf = true ∧ jm_go jm_p_X1_isOf 0 0 = true := ⟨by decide +kernel, by decide +kernel, by decide +kernel⟩
theorem jm_k_X2_init : jm_ckD 10 jm_p_X2_init = true ∧ jm_ckP 10 jm_p_X2_init = true ∧ jm_go jm_p_X2_init 0 0 = true := ⟨by decide +kernel, by decide +kernel, by decide +kernel⟩
theorem jm_k_X2_cleanOnes : jm_ckD 11 jm_p_X2_cleanOnes = true ∧ jm_ckP 11 jm_p_X2_cleanOnes = true ∧ jm_go jm_p_X2_cleanOnes 0 0 = true := ⟨by decide +kernel, by decide +kernel, by decide +kernel⟩
theorem jm_k_X2_told : jm_ckD 12 jm_p_X2_told = true ∧ jm_ckP 12 jm_p_X2_told = true ∧ jm_go jm_p_X2_told 0 0 = true := ⟨by decide +kernel, by decide +kernel, by decide +kernel⟩
theorem jm_k_X2_seekOrder : jm_ckD 13 jm_p_X2_seekOrder = true ∧ jm_ckP 13 jm_p_X2_seekOrder = true ∧ jm_go jm_p_X2_seekOrder 0 0 = true := ⟨by decide +kernel, by decide +kernel, by decide +kernel⟩
theorem jm_k_X2_tryOrders : jm_ckD 14 jm_p_X2_tryOrders = true ∧ jm_ckP 14 jm_p_X2_tryOrders = true ∧ jm_go jm_p_X2_tryOrders 0 0 = true := ⟨by decide +kernel, by decide +kernel, by decide +kernel⟩
theorem jm_k_X2_seekLaying : jm_ckD 15 jm_p_X2_seekLaying = true ∧ jm_ckP 15 jm_p_X2_seekLaying = true ∧ jm_go jm_p_X2_seekLaying 0 0 = true := ⟨by decide +kernel, by decide +kernel, by decide +kernel⟩
theorem jm_k_X2_tryLayings : jm_ckD 16 jm_p_X2_tryLayings = true ∧ jm_ckP 16 jm_p_X2_tryLayings = true ∧ jm_go jm_p_X2_tryLayings 0 0 = true := ⟨by decide +kernel, by decide +kernel, by decide +kernel⟩
theorem jm_k_X2_keepTried : jm_ckD 17 jm_p_X2_keepTried = true ∧ jm_ckP 17 jm_p_X2_keepTried = true ∧ jm_go jm_p_X2_keepTried 0 0 = true := ⟨by decide +kernel, by decide +kernel, by decide +kernel⟩
theorem jm_k_X2_fewestBeaten : jm_ckD 18 jm_p_X2_fewestBeaten = true ∧ jm_ckP 18 jm_p_X2_fewestBeaten = true ∧ jm_go jm_p_X2_fewestBeaten 0 0 = true := ⟨by decide +kernel, by decide +kernel, by decide +kernel⟩
theorem jm_k_X2_carriedIfBeaten : jm_ckD 19 jm_p_X2_carriedIfBeaten = true ∧ jm_ckP 19 jm_p_X2_carriedIfBeaten = true ∧ jm_go jm_p_X2_carriedIfBeaten 0 0 = true := ⟨by decide +kernel, by decide +kernel, by decide +kernel⟩
theorem jm_k_X2_uniters : jm_ckD 20 jm_p_X2_uniters = true ∧ jm_ckP 20 jm_p_X2_uniters = true ∧ jm_go jm_p_X2_uniters 0 0 = true := ⟨by decide +kernel, by decide +kernel, by decide +kernel⟩
theorem jm_k_X2_bindsTo : jm_ckD 21 jm_p_X2_bindsTo = true ∧ jm_ckP 21 jm_p_X2_bindsTo = true ∧ jm_go jm_p_X2_bindsTo 0 0 = true := ⟨by decide +kernel, by decide +kernel, by decide +kernel⟩
theorem jm_k_X2_culprits : jm_ckD 22 jm_p_X2_culprits = true ∧ jm_ckP 22 jm_p_X2_culprits = true ∧ jm_go jm_p_X2_culprits 0 0 = true := ⟨by decide +kernel, by decide +kernel, by decide +kernel⟩
theorem jm_k_X2_tryAs : jm_ckD 23 jm_p_X2_tryAs = true ∧ jm_ckP 23 jm_p_X2_tryAs = true ∧ jm_go jm_p_X2_tryAs 0 0 = true := ⟨by decide +kernel, by decide +kernel, by decide +kernel⟩
theorem jm_k_X2_fitting : jm_ckD 24 jm_p_X2_fitting = true ∧ jm_ckP 24 jm_p_X2_fitting = true ∧ jm_go jm_p_X2_fitting 0 0 = true := ⟨by decide +kernel, by decide +kernel, by decide +kernel⟩
theorem jm_k_X2_giveTrait : jm_ckD 25 jm_p_X2_giveTrait = true ∧ jm_ckP 25 jm_p_X2_giveTrait = true ∧ jm_go jm_p_X2_giveTrait 0 0 = true := ⟨by decide +kernel, by decide +kernel, by decide +kernel⟩
theorem jm_k_X2_isSoBehind : jm_ckD 26 jm_p_X2_isSoBehind = true ∧ jm_ckP 26 jm_p_X2_isSoBehind = true ∧ jm_go jm_p_X2_isSoBehind 0 0 = true := ⟨by decide +kernel, by decide +kernel, by decide +kernel⟩
theorem jm_k_X2_likelihood : jm_ckD 27 jm_p_X2_likelihood = true ∧ jm_ckP 27 jm_p_X2_likelihood = true ∧ jm_go jm_p_X2_likelihood 0 0 = true := ⟨by decide +kernel, by decide +kernel, by decide +kernel⟩
theorem jm_k_X2_weight : jm_ckD 28 jm_p_X2_weight = true ∧ jm_ckP 28 jm_p_X2_weight = true ∧ jm_go jm_p_X2_weight 0 0 = true := ⟨by decide +kernel, by decide +kernel, by decide +kernel⟩
theorem jm_k_X2_commonDivisor : jm_ckD 29 jm_p_X2_commonDivisor = true ∧ jm_ckP 29 jm_p_X2_commonDivisor = true ∧ jm_go jm_p_X2_commonDivisor 0 0 = true := ⟨by decide +kernel, by decide +kernel, by decide +kernel⟩
theorem jm_k_X2_years : jm_ckD 30 jm_p_X2_years = true ∧ jm_ckP 30 jm_p_X2_years = true ∧ jm_go jm_p_X2_years 0 0 = true := ⟨by decide +kernel, by decide +kernel, by decide +kernel⟩
theorem jm_k_X3_init : jm_ckD 31 jm_p_X3_init = true ∧ jm_ckP 31 jm_p_X3_init = true ∧ jm_go jm_p_X3_init 0 0 = true := ⟨by decide +kernel, by decide +kernel, by decide +kernel⟩
theorem jm_k_X3_isEmpty : jm_ckD 32 jm_p_X3_isEmpty = true ∧ jm_ckP 32 jm_p_X3_isEmpty = true ∧ jm_go jm_p_X3_isEmpty 0 0 = true := ⟨by decide +kernel, by decide +kernel, by decide +kernel⟩
theorem jm_k_X3_size : jm_ckD 33 jm_p_X3_size = true ∧ jm_ckP 33 jm_p_X3_size = true ∧ jm_go jm_p_X3_size 0 0 = true := ⟨by decide +kernel, by decide +kernel, by decide +kernel⟩
theorem jm_k_X3_forget : jm_ckD 34 jm_p_X3_forget = true ∧ jm_ckP 34 jm_p_X3_forget = true ∧ jm_go jm_p_X3_forget 0 0 = true := ⟨by decide +kernel, by decide +kernel, by decide +kernel⟩
theorem jm_k_X3_keep : jm_ckD 35 jm_p_X3_keep = true ∧ jm_ckP 35 jm_p_X3_keep = true ∧ jm_go jm_p_X3_keep 0 0 = true := ⟨by decide +kernel, by decide +kernel, by decide +kernel⟩
theorem jm_k_X3_takeBack : jm_ckD 36 jm_p_X3_takeBack = true ∧ jm_ckP 36 jm_p_X3_takeBack = true ∧ jm_go jm_p_X3_takeBack 0 0 = true := ⟨by decide +kernel, by decide +kernel, by decide +kernel⟩
theorem jm_k_X4_init : jm_ckD 37 jm_p_X4_init = true ∧ jm_ckP 37 jm_p_X4_init = true ∧ jm_go jm_p_X4_init 0 0 = true := ⟨by decide +kernel, by decide +kernel, by decide +kernel⟩
theorem jm_k_X4_clear : jm_ckD 38 jm_p_X4_clear = true ∧ jm_ckP 38 jm_p_X4_clear = true ∧ jm_go jm_p_X4_clear 0 0 = true := ⟨by decide +kernel, by decide +kernel, by decide +kernel⟩
theorem jm_k_X4_takeOver : jm_ckD 39 jm_p_X4_takeOver = true ∧ jm_ckP 39 jm_p_X4_takeOver = true ∧ jm_go jm_p_X4_takeOver 0 0 = true := ⟨by decide +kernel, by decide +kernel, by decide +kernel⟩
theorem jm_k_X4_writeCells : jm_ckD 40 jm_p_X4_writeCells = true ∧ jm_ckP 40 jm_p_X4_writeCells = true ∧ jm_go jm_p_X4_writeCells 0 0 = true := ⟨by decide +kernel, by decide +kernel, by decide +kernel⟩
theorem jm_k_X4_readCells : jm_ckD 41 jm_p_X4_readCells = true ∧ jm_ckP 41 jm_p_X4_readCells = true ∧ jm_go jm_p_X4_readCells 0 0 = true := ⟨by decide +kernel, by decide +kernel, by decide +kernel⟩
theorem jm_k_X4_allComers : jm_ckD 42 jm_p_X4_allComers = true ∧ jm_ckP 42 jm_p_X4_allComers = true ∧ jm_go jm_p_X4_allComers 0 0 = true := ⟨by decide +kernel, by decide +kernel, by decide +kernel⟩
theorem jm_k_X4_receive : jm_ckD 43 jm_p_X4_receive = true ∧ jm_ckP 43 jm_p_X4_receive = true ∧ jm_go jm_p_X4_receive 0 0 = true := ⟨by decide +kernel, by decide +kernel, by decide +kernel⟩
theorem jm_k_X4_swapWithNext : jm_ckD 44 jm_p_X4_swapWithNext = true ∧ jm_ckP 44 jm_p_X4_swapWithNext = true ∧ jm_go jm_p_X4_swapWithNext 0 0 = true := ⟨by decide +kernel, by decide +kernel, by decide +kernel⟩
theorem jm_k_X4_rainOnAll : jm_ckD 45 jm_p_X4_rainOnAll = true ∧ jm_ckP 45 jm_p_X4_rainOnAll = true ∧ jm_go jm_p_X4_rainOnAll 0 0 = true := ⟨by decide +kernel, by decide +kernel, by decide +kernel⟩
theorem jm_k_X4_areAtOne : jm_ckD 46 jm_p_X4_areAtOne = true ∧ jm_ckP 46 jm_p_X4_areAtOne = true ∧ jm_go jm_p_X4_areAtOne 0 0 = true := ⟨by decide +kernel, by decide +kernel, by decide +kernel⟩
theorem jm_k_X4_pactCount : jm_ckD 47 jm_p_X4_pactCount = true ∧ jm_ckP 47 jm_p_X4_pactCount = true ∧ jm_go jm_p_X4_pactCount 0 0 = true := ⟨by decide +kernel, by decide +kernel, by decide +kernel⟩
theorem jm_k_X4_firstPact : jm_ckD 48 jm_p_X4_firstPact = true ∧ jm_ckP 48 jm_p_X4_firstPact = true ∧ jm_go jm_p_X4_firstPact 0 0 = true := ⟨by decide +kernel, by decide +kernel, by decide +kernel⟩
theorem jm_k_X4_lyingInAll : jm_ckD 49 jm_p_X4_lyingInAll = true ∧ jm_ckP 49 jm_p_X4_lyingInAll = true ∧ jm_go jm_p_X4_lyingInAll 0 0 = true := ⟨by decide +kernel, by decide +kernel, by decide +kernel⟩
theorem jm_k_X4_comings : jm_ckD 50 jm_p_X4_comings = true ∧ jm_ckP 50 jm_p_X4_comings = true ∧ jm_go jm_p_X4_comings 0 0 = true := ⟨by decide +kernel, by decide +kernel, by decide +kernel⟩
theorem jm_k_X5_init : jm_ckD 51 jm_p_X5_init = true ∧ jm_ckP 51 jm_p_X5_init = true ∧ jm_go jm_p_X5_init 0 0 = true := ⟨by decide +kernel, by decide +kernel, by decide +kernel⟩
theorem jm_k_X5_lying : jm_ckD 52 jm_p_X5_lying = true ∧ jm_ckP 52 jm_p_X5_lying = true ∧ jm_go jm_p_X5_lying 0 0 = true := ⟨by decide +kernel, by decide +kernel, by decide +kernel⟩
theorem jm_k_X5_master : jm_ckD 53 jm_p_X5_master = true ∧ jm_ckP 53 jm_p_X5_master = true ∧ jm_go jm_p_X5_master 0 0 = true := ⟨by decide +kernel, by decide +kernel, by decide +kernel⟩
theorem jm_k_X5_empty : jm_ckD 54 jm_p_X5_empty = true ∧ jm_ckP 54 jm_p_X5_empty = true ∧ jm_go jm_p_X5_empty 0 0 = true := ⟨by decide +kernel, by decide +kernel, by decide +kernel⟩
theorem jm_k_X5_takeOver : jm_ckD 55 jm_p_X5_takeOver = true ∧ jm_ckP 55 jm_p_X5_takeOver = true ∧ jm_go jm_p_X5_takeOver 0 0 = true := ⟨by decide +kernel, by decide +kernel, by decide +kernel⟩
theorem jm_k_X6_init : jm_ckD 56 jm_p_X6_init = true ∧ jm_ckP 56 jm_p_X6_init = true ∧ jm_go jm_p_X6_init 0 0 = true := ⟨by decide +kernel, by decide +kernel, by decide +kernel⟩
theorem jm_k_X6_isFull : jm_ckD 57 jm_p_X6_isFull = true ∧ jm_ckP 57 jm_p_X6_isFull = true ∧ jm_go jm_p_X6_isFull 0 0 = true := ⟨by decide +kernel, by decide +kernel, by decide +kernel⟩
theorem jm_k_X6_size : jm_ckD 58 jm_p_X6_size = true ∧ jm_ckP 58 jm_p_X6_size = true ∧ jm_go jm_p_X6_size 0 0 = true := ⟨by decide +kernel, by decide +kernel, by decide +kernel⟩
theorem jm_k_X6_append : jm_ckD 59 jm_p_X6_append = true ∧ jm_ckP 59 jm_p_X6_append = true ∧ jm_go jm_p_X6_append 0 0 = true := ⟨by decide +kernel, by decide +kernel, by decide +kernel⟩
theorem jm_k_X6_place : jm_ckD 60 jm_p_X6_place = true ∧ jm_ckP 60 jm_p_X6_place = true ∧ jm_go jm_p_X6_place 0 0 = true := ⟨by decide +kernel, by decide +kernel, by decide +kernel⟩
theorem jm_k_X6_readInto : jm_ckD 61 jm_p_X6_readInto = true ∧ jm_ckP 61 jm_p_X6_readInto = true ∧ jm_go jm_p_X6_readInto 0 0 = true := ⟨by decide +kernel, by decide +kernel, by decide +kernel⟩
theorem jm_k_X6_readLaw : jm_ckD 62 jm_p_X6_readLaw = true ∧ jm_ckP 62 jm_p_X6_readLaw = true ∧ jm_go jm_p_X6_readLaw 0 0 = true := ⟨by decide +kernel, by decide +kernel, by decide +kernel⟩
theorem jm_k_X6_readMats : jm_ckD 63 jm_p_X6_readMats = true ∧ jm_ckP 63 jm_p_X6_readMats = true ∧ jm_go jm_p_X6_readMats 0 0 = true := ⟨by decide +kernel, by decide +kernel, by decide +kernel⟩
theorem jm_k_X6_readComers : jm_ckD 64 jm_p_X6_readComers = true ∧ jm_ckP 64 jm_p_X6_readComers = true ∧ jm_go jm_p_X6_readComers 0 0 = true := ⟨by decide +kernel, by decide +kernel, by decide +kernel⟩
theorem jm_k_X6_readTraits : jm_ckD 65 jm_p_X6_readTraits = true ∧ jm_ckP 65 jm_p_X6_readTraits = true ∧ jm_go jm_p_X6_readTraits 0 0 = true := ⟨by decide +kernel, by decide +kernel, by decide +kernel⟩
theorem jm_k_X6_sortOf : jm_ckD 66 jm_p_X6_sortOf = true ∧ jm_ckP 66 jm_p_X6_sortOf = true ∧ jm_go jm_p_X6_sortOf 0 0 = true := ⟨by decide +kernel, by decide +kernel, by decide +kernel⟩
theorem jm_k_X6_seen : jm_ckD 67 jm_p_X6_seen = true ∧ jm_ckP 67 jm_p_X6_seen = true ∧ jm_go jm_p_X6_seen 0 0 = true := ⟨by decide +kernel, by decide +kernel, by decide +kernel⟩
theorem jm_k_X6_refuse : jm_ckD 68 jm_p_X6_refuse = true ∧ jm_ckP 68 jm_p_X6_refuse = true ∧ jm_go jm_p_X6_refuse 0 0 = true := ⟨by decide +kernel, by decide +kernel, by decide +kernel⟩
theorem jm_k_X6_takeByte : jm_ckD 69 jm_p_X6_takeByte = true ∧ jm_ckP 69 jm_p_X6_takeByte = true ∧ jm_go jm_p_X6_takeByte 0 0 = true := ⟨by decide +kernel, by decide +kernel, by decide +kernel⟩
theorem jm_k_X6_takeNumber : jm_ckD 70 jm_p_X6_takeNumber = true ∧ jm_ckP 70 jm_p_X6_takeNumber = true ∧ jm_go jm_p_X6_takeNumber 0 0 = true := ⟨by decide +kernel, by decide +kernel, by decide +kernel⟩
theorem jm_k_X6_isFigure : jm_ckD 71 jm_p_X6_isFigure = true ∧ jm_ckP 71 jm_p_X6_isFigure = true ∧ jm_go jm_p_X6_isFigure 0 0 = true := ⟨by decide +kernel, by decide +kernel, by decide +kernel⟩
theorem jm_k_X7_init : jm_ckD 72 jm_p_X7_init = true ∧ jm_ckP 72 jm_p_X7_init = true ∧ jm_go jm_p_X7_init 0 0 = true := ⟨by decide +kernel, by decide +kernel, by decide +kernel⟩
theorem jm_k_X7_isMissing : jm_ckD 73 jm_p_X7_isMissing = true ∧ jm_ckP 73 jm_p_X7_isMissing = true ∧ jm_go jm_p_X7_isMissing 0 0 = true := ⟨by decide +kernel, by decide +kernel, by decide +kernel⟩
theorem jm_k_X7_sameLane : jm_ckD 74 jm_p_X7_sameLane = true ∧ jm_ckP 74 jm_p_X7_sameLane = true ∧ jm_go jm_p_X7_sameLane 0 0 = true := ⟨by decide +kernel, by decide +kernel, by decide +kernel⟩
end
section
theorem jm_k_X7_reaches : jm_ckD 75 jm_p_X7_reaches = true ∧ jm_ckP 75 jm_p_X7_reaches = true ∧ jm_go jm_p_X7_reaches 0 0 = true := ⟨by decide +kernel, by decide +kernel, by decide +kernel⟩
theorem jm_k_X7_item : jm_ckD 76 jm_p_X7_item = true ∧ jm_ckP 76 jm_p_X7_item = true ∧ jm_go jm_p_X7_item 0 0 = true := ⟨by decide +kernel, by decide +kernel, by decide +kernel⟩
theorem jm_k_X7_make : jm_ckD 77 jm_p_X7_make = true ∧ jm_ckP 77 jm_p_X7_make = true ∧ jm_go jm_p_X7_make 0 0 = true := ⟨by decide +kernel, by decide +kernel, by decide +kernel⟩
theorem jm_k_X7_put : jm_ckD 78 jm_p_X7_put = true ∧ jm_ckP 78 jm_p_X7_put = true ∧ jm_go jm_p_X7_put 0 0 = true := ⟨by decide +kernel, by decide +kernel, by decide +kernel⟩
theorem jm_k_X7_carryOver : jm_ckD 79 jm_p_X7_carryOver = true ∧ jm_ckP 79 jm_p_X7_carryOver = true ∧ jm_go jm_p_X7_carryOver 0 0 = true := ⟨by decide +kernel, by decide +kernel, by decide +kernel⟩
theorem jm_k_X7_remove : jm_ckD 80 jm_p_X7_remove = true ∧ jm_ckP 80 jm_p_X7_remove = true ∧ jm_go jm_p_X7_remove 0 0 = true := ⟨by decide +kernel, by decide +kernel, by decide +kernel⟩
theorem jm_k_X7_present : jm_ckD 81 jm_p_X7_present = true ∧ jm_ckP 81 jm_p_X7_present = true ∧ jm_go jm_p_X7_present 0 0 = true := ⟨by decide +kernel, by decide +kernel, by decide +kernel⟩
theorem jm_k_X8_init : jm_ckD 82 jm_p_X8_init = true ∧ jm_ckP 82 jm_p_X8_init = true ∧ jm_go jm_p_X8_init 0 0 = true := ⟨by decide +kernel, by decide +kernel, by decide +kernel⟩
theorem jm_k_X8_begin : jm_ckD 83 jm_p_X8_begin = true ∧ jm_ckP 83 jm_p_X8_begin = true ∧ jm_go jm_p_X8_begin 0 0 = true := ⟨by decide +kernel, by decide +kernel, by decide +kernel⟩
theorem jm_k_X8_goOver : jm_ckD 84 jm_p_X8_goOver = true ∧ jm_ckP 84 jm_p_X8_goOver = true ∧ jm_go jm_p_X8_goOver 0 0 = true := ⟨by decide +kernel, by decide +kernel, by decide +kernel⟩
theorem jm_k_X8_allGoOver : jm_ckD 85 jm_p_X8_allGoOver = true ∧ jm_ckP 85 jm_p_X8_allGoOver = true ∧ jm_go jm_p_X8_allGoOver 0 0 = true := ⟨by decide +kernel, by decide +kernel, by decide +kernel⟩
theorem jm_k_X8_lyingInAll : jm_ckD 86 jm_p_X8_lyingInAll = true ∧ jm_ckP 86 jm_p_X8_lyingInAll = true ∧ jm_go jm_p_X8_lyingInAll 0 0 = true := ⟨by decide +kernel, by decide +kernel, by decide +kernel⟩
theorem jm_k_X9_init : jm_ckD 87 jm_p_X9_init = true ∧ jm_ckP 87 jm_p_X9_init = true ∧ jm_go jm_p_X9_init 0 0 = true := ⟨by decide +kernel, by decide +kernel, by decide +kernel⟩
theorem jm_k_X9_row : jm_ckD 88 jm_p_X9_row = true ∧ jm_ckP 88 jm_p_X9_row = true ∧ jm_go jm_p_X9_row 0 0 = true := ⟨by decide +kernel, by decide +kernel, by decide +kernel⟩
theorem jm_k_X9_set : jm_ckD 89 jm_p_X9_set = true ∧ jm_ckP 89 jm_p_X9_set = true ∧ jm_go jm_p_X9_set 0 0 = true := ⟨by decide +kernel, by decide +kernel, by decide +kernel⟩
theorem jm_k_X9_copy : jm_ckD 90 jm_p_X9_copy = true ∧ jm_ckP 90 jm_p_X9_copy = true ∧ jm_go jm_p_X9_copy 0 0 = true := ⟨by decide +kernel, by decide +kernel, by decide +kernel⟩
theorem jm_k_X9_drop : jm_ckD 91 jm_p_X9_drop = true ∧ jm_ckP 91 jm_p_X9_drop = true ∧ jm_go jm_p_X9_drop 0 0 = true := ⟨by decide +kernel, by decide +kernel, by decide +kernel⟩
theorem jm_k_X9_feed : jm_ckD 92 jm_p_X9_feed = true ∧ jm_ckP 92 jm_p_X9_feed = true ∧ jm_go jm_p_X9_feed 0 0 = true := ⟨by decide +kernel, by decide +kernel, by decide +kernel⟩
theorem jm_k_X9_hotel : jm_ckD 93 jm_p_X9_hotel = true ∧ jm_ckP 93 jm_p_X9_hotel = true ∧ jm_go jm_p_X9_hotel 0 0 = true := ⟨by decide +kernel, by decide +kernel, by decide +kernel⟩
theorem jm_k_X9_fault : jm_ckD 94 jm_p_X9_fault = true ∧ jm_ckP 94 jm_p_X9_fault = true ∧ jm_go jm_p_X9_fault 0 0 = true := ⟨by decide +kernel, by decide +kernel, by decide +kernel⟩
theorem jm_k_X9_come : jm_ckD 95 jm_p_X9_come = true ∧ jm_ckP 95 jm_p_X9_come = true ∧ jm_go jm_p_X9_come 0 0 = true := ⟨by decide +kernel, by decide +kernel, by decide +kernel⟩
theorem jm_k_X9_beat : jm_ckD 96 jm_p_X9_beat = true ∧ jm_ckP 96 jm_p_X9_beat = true ∧ jm_go jm_p_X9_beat 0 0 = true := ⟨by decide +kernel, by decide +kernel, by decide +kernel⟩
theorem jm_k_X9_change : jm_ckD 97 jm_p_X9_change = true ∧ jm_ckP 97 jm_p_X9_change = true ∧ jm_go jm_p_X9_change 0 0 = true := ⟨by decide +kernel, by decide +kernel, by decide +kernel⟩
theorem jm_k_X9_rain : jm_ckD 98 jm_p_X9_rain = true ∧ jm_ckP 98 jm_p_X9_rain = true ∧ jm_go jm_p_X9_rain 0 0 = true := ⟨by decide +kernel, by decide +kernel, by decide +kernel⟩
theorem jm_k_X9_undo : jm_ckD 99 jm_p_X9_undo = true ∧ jm_ckP 99 jm_p_X9_undo = true ∧ jm_go jm_p_X9_undo 0 0 = true := ⟨by decide +kernel, by decide +kernel, by decide +kernel⟩
theorem jm_k_X9_comer : jm_ckD 100 jm_p_X9_comer = true ∧ jm_ckP 100 jm_p_X9_comer = true ∧ jm_go jm_p_X9_comer 0 0 = true := ⟨by decide +kernel, by decide +kernel, by decide +kernel⟩
theorem jm_k_X9_mat : jm_ckD 101 jm_p_X9_mat = true ∧ jm_ckP 101 jm_p_X9_mat = true ∧ jm_go jm_p_X9_mat 0 0 = true := ⟨by decide +kernel, by decide +kernel, by decide +kernel⟩
theorem jm_k_X9_soil : jm_ckD 102 jm_p_X9_soil = true ∧ jm_ckP 102 jm_p_X9_soil = true ∧ jm_go jm_p_X9_soil 0 0 = true := ⟨by decide +kernel, by decide +kernel, by decide +kernel⟩
theorem jm_k_X9_atOne : jm_ckD 103 jm_p_X9_atOne = true ∧ jm_ckP 103 jm_p_X9_atOne = true ∧ jm_go jm_p_X9_atOne 0 0 = true := ⟨by decide +kernel, by decide +kernel, by decide +kernel⟩
theorem jm_k_X9_leaves : jm_ckD 104 jm_p_X9_leaves = true ∧ jm_ckP 104 jm_p_X9_leaves = true ∧ jm_go jm_p_X9_leaves 0 0 = true := ⟨by decide +kernel, by decide +kernel, by decide +kernel⟩
theorem jm_k_X9_carries : jm_ckD 105 jm_p_X9_carries = true ∧ jm_ckP 105 jm_p_X9_carries = true ∧ jm_go jm_p_X9_carries 0 0 = true := ⟨by decide +kernel, by decide +kernel, by decide +kernel⟩
theorem jm_k_X9_clean : jm_ckD 106 jm_p_X9_clean = true ∧ jm_ckP 106 jm_p_X9_clean = true ∧ jm_go jm_p_X9_clean 0 0 = true := ⟨by decide +kernel, by decide +kernel, by decide +kernel⟩
theorem jm_k_X9_order : jm_ckD 107 jm_p_X9_order = true ∧ jm_ckP 107 jm_p_X9_order = true ∧ jm_go jm_p_X9_order 0 0 = true := ⟨by decide +kernel, by decide +kernel, by decide +kernel⟩
theorem jm_k_X9_laying : jm_ckD 108 jm_p_X9_laying = true ∧ jm_ckP 108 jm_p_X9_laying = true ∧ jm_go jm_p_X9_laying 0 0 = true := ⟨by decide +kernel, by decide +kernel, by decide +kernel⟩
theorem jm_k_X9_beating : jm_ckD 109 jm_p_X9_beating = true ∧ jm_ckP 109 jm_p_X9_beating = true ∧ jm_go jm_p_X9_beating 0 0 = true := ⟨by decide +kernel, by decide +kernel, by decide +kernel⟩
theorem jm_k_X9_pacts : jm_ckD 110 jm_p_X9_pacts = true ∧ jm_ckP 110 jm_p_X9_pacts = true ∧ jm_go jm_p_X9_pacts 0 0 = true := ⟨by decide +kernel, by decide +kernel, by decide +kernel⟩
theorem jm_k_X9_could : jm_ckD 111 jm_p_X9_could = true ∧ jm_ckP 111 jm_p_X9_could = true ∧ jm_go jm_p_X9_could 0 0 = true := ⟨by decide +kernel, by decide +kernel, by decide +kernel⟩
theorem jm_k_X9_who : jm_ckD 112 jm_p_X9_who = true ∧ jm_ckP 112 jm_p_X9_who = true ∧ jm_go jm_p_X9_who 0 0 = true := ⟨by decide +kernel, by decide +kernel, by decide +kernel⟩
theorem jm_k_X9_fits : jm_ckD 113 jm_p_X9_fits = true ∧ jm_ckP 113 jm_p_X9_fits = true ∧ jm_go jm_p_X9_fits 0 0 = true := ⟨by decide +kernel, by decide +kernel, by decide +kernel⟩
theorem jm_k_X9_absent : jm_ckD 114 jm_p_X9_absent = true ∧ jm_ckP 114 jm_p_X9_absent = true ∧ jm_go jm_p_X9_absent 0 0 = true := ⟨by decide +kernel, by decide +kernel, by decide +kernel⟩
theorem jm_k_X9_drawn : jm_ckD 115 jm_p_X9_drawn = true ∧ jm_ckP 115 jm_p_X9_drawn = true ∧ jm_go jm_p_X9_drawn 0 0 = true := ⟨by decide +kernel, by decide +kernel, by decide +kernel⟩
theorem jm_k_X9_image : jm_ckD 116 jm_p_X9_image = true ∧ jm_ckP 116 jm_p_X9_image = true ∧ jm_go jm_p_X9_image 0 0 = true := ⟨by decide +kernel, by decide +kernel, by decide +kernel⟩
theorem jm_k_X9_restore : jm_ckD 117 jm_p_X9_restore = true ∧ jm_ckP 117 jm_p_X9_restore = true ∧ jm_go jm_p_X9_restore 0 0 = true := ⟨by decide +kernel, by decide +kernel, by decide +kernel⟩
theorem jm_k_X9_kind : jm_ckD 118 jm_p_X9_kind = true ∧ jm_ckP 118 jm_p_X9_kind = true ∧ jm_go jm_p_X9_kind 0 0 = true := ⟨by decide +kernel, by decide +kernel, by decide +kernel⟩
theorem jm_k_X9_as : jm_ckD 119 jm_p_X9_as = true ∧ jm_ckP 119 jm_p_X9_as = true ∧ jm_go jm_p_X9_as 0 0 = true := ⟨by decide +kernel, by decide +kernel, by decide +kernel⟩
theorem jm_k_X9_ask : jm_ckD 120 jm_p_X9_ask = true ∧ jm_ckP 120 jm_p_X9_ask = true ∧ jm_go jm_p_X9_ask 0 0 = true := ⟨by decide +kernel, by decide +kernel, by decide +kernel⟩
theorem jm_k_X9_trace : jm_ckD 121 jm_p_X9_trace = true ∧ jm_ckP 121 jm_p_X9_trace = true ∧ jm_go jm_p_X9_trace 0 0 = true := ⟨by decide +kernel, by decide +kernel, by decide +kernel⟩
theorem jm_k_X9_count : jm_ckD 122 jm_p_X9_count = true ∧ jm_ckP 122 jm_p_X9_count = true ∧ jm_go jm_p_X9_count 0 0 = true := ⟨by decide +kernel, by decide +kernel, by decide +kernel⟩
theorem jm_k_X9_status : jm_ckD 123 jm_p_X9_status = true ∧ jm_ckP 123 jm_p_X9_status = true ∧ jm_go jm_p_X9_status 0 0 = true := ⟨by decide +kernel, by decide +kernel, by decide +kernel⟩
theorem jm_k_X9_noRow : jm_ckD 124 jm_p_X9_noRow = true ∧ jm_ckP 124 jm_p_X9_noRow = true ∧ jm_go jm_p_X9_noRow 0 0 = true := ⟨by decide +kernel, by decide +kernel, by decide +kernel⟩
theorem jm_k_X9_noImage : jm_ckD 125 jm_p_X9_noImage = true ∧ jm_ckP 125 jm_p_X9_noImage = true ∧ jm_go jm_p_X9_noImage 0 0 = true := ⟨by decide +kernel, by decide +kernel, by decide +kernel⟩
theorem jm_k_X9_noCarried : jm_ckD 126 jm_p_X9_noCarried = true ∧ jm_ckP 126 jm_p_X9_noCarried = true ∧ jm_go jm_p_X9_noCarried 0 0 = true := ⟨by decide +kernel, by decide +kernel, by decide +kernel⟩
theorem jm_k_X9_neither : jm_ckD 127 jm_p_X9_neither = true ∧ jm_ckP 127 jm_p_X9_neither = true ∧ jm_go jm_p_X9_neither 0 0 = true := ⟨by decide +kernel, by decide +kernel, by decide +kernel⟩
theorem jm_k_X9_noHotel : jm_ckD 128 jm_p_X9_noHotel = true ∧ jm_ckP 128 jm_p_X9_noHotel = true ∧ jm_go jm_p_X9_noHotel 0 0 = true := ⟨by decide +kernel, by decide +kernel, by decide +kernel⟩
theorem jm_k_X9_noComer : jm_ckD 129 jm_p_X9_noComer = true ∧ jm_ckP 129 jm_p_X9_noComer = true ∧ jm_go jm_p_X9_noComer 0 0 = true := ⟨by decide +kernel, by decide +kernel, by decide +kernel⟩
theorem jm_k_X9_noMat : jm_ckD 130 jm_p_X9_noMat = true ∧ jm_ckP 130 jm_p_X9_noMat = true ∧ jm_go jm_p_X9_noMat 0 0 = true := ⟨by decide +kernel, by decide +kernel, by decide +kernel⟩
theorem jm_k_X9_found : jm_ckD 131 jm_p_X9_found = true ∧ jm_ckP 131 jm_p_X9_found = true ∧ jm_go jm_p_X9_found 0 0 = true := ⟨by decide +kernel, by decide +kernel, by decide +kernel⟩
theorem jm_k_X9_unfound : jm_ckD 132 jm_p_X9_unfound = true ∧ jm_ckP 132 jm_p_X9_unfound = true ∧ jm_go jm_p_X9_unfound 0 0 = true := ⟨by decide +kernel, by decide +kernel, by decide +kernel⟩
theorem jm_k_X9_matRowFinding : jm_ckD 133 jm_p_X9_matRowFinding = true ∧ jm_ckP 133 jm_p_X9_matRowFinding = true ∧ jm_go jm_p_X9_matRowFinding 0 0 = true := ⟨by decide +kernel, by decide +kernel, by decide +kernel⟩
theorem jm_k_X10_init : jm_ckD 134 jm_p_X10_init = true ∧ jm_ckP 134 jm_p_X10_init = true ∧ jm_go jm_p_X10_init 0 0 = true := ⟨by decide +kernel, by decide +kernel, by decide +kernel⟩
theorem jm_k_X10_in : jm_ckD 135 jm_p_X10_in = true ∧ jm_ckP 135 jm_p_X10_in = true ∧ jm_go jm_p_X10_in 0 0 = true := ⟨by decide +kernel, by decide +kernel, by decide +kernel⟩
theorem jm_k_X10_has : jm_ckD 136 jm_p_X10_has = true ∧ jm_ckP 136 jm_p_X10_has = true ∧ jm_go jm_p_X10_has 0 0 = true := ⟨by decide +kernel, by decide +kernel, by decide +kernel⟩
theorem jm_k_X10_bits : jm_ckD 137 jm_p_X10_bits = true ∧ jm_ckP 137 jm_p_X10_bits = true ∧ jm_go jm_p_X10_bits 0 0 = true := ⟨by decide +kernel, by decide +kernel, by decide +kernel⟩
theorem jm_k_X10_find : jm_ckD 138 jm_p_X10_find = true ∧ jm_ckP 138 jm_p_X10_find = true ∧ jm_go jm_p_X10_find 0 0 = true := ⟨by decide +kernel, by decide +kernel, by decide +kernel⟩
theorem jm_k_X10_well : jm_ckD 139 jm_p_X10_well = true ∧ jm_ckP 139 jm_p_X10_well = true ∧ jm_go jm_p_X10_well 0 0 = true := ⟨by decide +kernel, by decide +kernel, by decide +kernel⟩
theorem jm_k_X10_isRow : jm_ckD 140 jm_p_X10_isRow = true ∧ jm_ckP 140 jm_p_X10_isRow = true ∧ jm_go jm_p_X10_isRow 0 0 = true := ⟨by decide +kernel, by decide +kernel, by decide +kernel⟩
theorem jm_k_X10_row : jm_ckD 141 jm_p_X10_row = true ∧ jm_ckP 141 jm_p_X10_row = true ∧ jm_go jm_p_X10_row 0 0 = true := ⟨by decide +kernel, by decide +kernel, by decide +kernel⟩
theorem jm_k_X10_narrow : jm_ckD 142 jm_p_X10_narrow = true ∧ jm_ckP 142 jm_p_X10_narrow = true ∧ jm_go jm_p_X10_narrow 0 0 = true := ⟨by decide +kernel, by decide +kernel, by decide +kernel⟩
theorem jm_k_X10_set : jm_ckD 143 jm_p_X10_set = true ∧ jm_ckP 143 jm_p_X10_set = true ∧ jm_go jm_p_X10_set 0 0 = true := ⟨by decide +kernel, by decide +kernel, by decide +kernel⟩
theorem jm_k_X10_isSpan : jm_ckD 144 jm_p_X10_isSpan = true ∧ jm_ckP 144 jm_p_X10_isSpan = true ∧ jm_go jm_p_X10_isSpan 0 0 = true := ⟨by decide +kernel, by decide +kernel, by decide +kernel⟩
theorem jm_k_X10_copy : jm_ckD 145 jm_p_X10_copy = true ∧ jm_ckP 145 jm_p_X10_copy = true ∧ jm_go jm_p_X10_copy 0 0 = true := ⟨by decide +kernel, by decide +kernel, by decide +kernel⟩
theorem jm_k_X10_drop : jm_ckD 146 jm_p_X10_drop = true ∧ jm_ckP 146 jm_p_X10_drop = true ∧ jm_go jm_p_X10_drop 0 0 = true := ⟨by decide +kernel, by decide +kernel, by decide +kernel⟩
theorem jm_k_X10_feed : jm_ckD 147 jm_p_X10_feed = true ∧ jm_ckP 147 jm_p_X10_feed = true ∧ jm_go jm_p_X10_feed 0 0 = true := ⟨by decide +kernel, by decide +kernel, by decide +kernel⟩
theorem jm_k_X10_isLetter : jm_ckD 148 jm_p_X10_isLetter = true ∧ jm_ckP 148 jm_p_X10_isLetter = true ∧ jm_go jm_p_X10_isLetter 0 0 = true := ⟨by decide +kernel, by decide +kernel, by decide +kernel⟩
theorem jm_k_X10_isFigure : jm_ckD 149 jm_p_X10_isFigure = true ∧ jm_ckP 149 jm_p_X10_isFigure = true ∧ jm_go jm_p_X10_isFigure 0 0 = true := ⟨by decide +kernel, by decide +kernel, by decide +kernel⟩
end
section
theorem jm_k_X10_refuse : jm_ckD 150 jm_p_X10_refuse = true ∧ jm_ckP 150 jm_p_X10_refuse = true ∧ jm_go jm_p_X10_refuse 0 0 = true := ⟨by decide +kernel, by decide +kernel, by decide +kernel⟩
theorem jm_k_X10_sign : jm_ckD 151 jm_p_X10_sign = true ∧ jm_ckP 151 jm_p_X10_sign = true ∧ jm_go jm_p_X10_sign 0 0 = true := ⟨by decide +kernel, by decide +kernel, by decide +kernel⟩
theorem jm_k_X10_readsNumber : jm_ckD 152 jm_p_X10_readsNumber = true ∧ jm_ckP 152 jm_p_X10_readsNumber = true ∧ jm_go jm_p_X10_readsNumber 0 0 = true := ⟨by decide +kernel, by decide +kernel, by decide +kernel⟩
theorem jm_k_X10_readsLaw : jm_ckD 153 jm_p_X10_readsLaw = true ∧ jm_ckP 153 jm_p_X10_readsLaw = true ∧ jm_go jm_p_X10_readsLaw 0 0 = true := ⟨by decide +kernel, by decide +kernel, by decide +kernel⟩
theorem jm_k_X10_readsMat : jm_ckD 154 jm_p_X10_readsMat = true ∧ jm_ckP 154 jm_p_X10_readsMat = true ∧ jm_go jm_p_X10_readsMat 0 0 = true := ⟨by decide +kernel, by decide +kernel, by decide +kernel⟩
theorem jm_k_X10_kindOfLetter : jm_ckD 155 jm_p_X10_kindOfLetter = true ∧ jm_ckP 155 jm_p_X10_kindOfLetter = true ∧ jm_go jm_p_X10_kindOfLetter 0 0 = true := ⟨by decide +kernel, by decide +kernel, by decide +kernel⟩
theorem jm_k_X10_readsComer : jm_ckD 156 jm_p_X10_readsComer = true ∧ jm_ckP 156 jm_p_X10_readsComer = true ∧ jm_go jm_p_X10_readsComer 0 0 = true := ⟨by decide +kernel, by decide +kernel, by decide +kernel⟩
theorem jm_k_X10_isSort : jm_ckD 157 jm_p_X10_isSort = true ∧ jm_ckP 157 jm_p_X10_isSort = true ∧ jm_go jm_p_X10_isSort 0 0 = true := ⟨by decide +kernel, by decide +kernel, by decide +kernel⟩
theorem jm_k_X10_reads : jm_ckD 158 jm_p_X10_reads = true ∧ jm_ckP 158 jm_p_X10_reads = true ∧ jm_go jm_p_X10_reads 0 0 = true := ⟨by decide +kernel, by decide +kernel, by decide +kernel⟩
theorem jm_k_X10_hotel : jm_ckD 159 jm_p_X10_hotel = true ∧ jm_ckP 159 jm_p_X10_hotel = true ∧ jm_go jm_p_X10_hotel 0 0 = true := ⟨by decide +kernel, by decide +kernel, by decide +kernel⟩
theorem jm_k_X10_fault : jm_ckD 160 jm_p_X10_fault = true ∧ jm_ckP 160 jm_p_X10_fault = true ∧ jm_go jm_p_X10_fault 0 0 = true := ⟨by decide +kernel, by decide +kernel, by decide +kernel⟩
theorem jm_k_X10_copyTown : jm_ckD 161 jm_p_X10_copyTown = true ∧ jm_ckP 161 jm_p_X10_copyTown = true ∧ jm_go jm_p_X10_copyTown 0 0 = true := ⟨by decide +kernel, by decide +kernel, by decide +kernel⟩
theorem jm_k_X10_keepPast : jm_ckD 162 jm_p_X10_keepPast = true ∧ jm_ckP 162 jm_p_X10_keepPast = true ∧ jm_go jm_p_X10_keepPast 0 0 = true := ⟨by decide +kernel, by decide +kernel, by decide +kernel⟩
theorem jm_k_X10_undo : jm_ckD 163 jm_p_X10_undo = true ∧ jm_ckP 163 jm_p_X10_undo = true ∧ jm_go jm_p_X10_undo 0 0 = true := ⟨by decide +kernel, by decide +kernel, by decide +kernel⟩
theorem jm_k_X10_isComer : jm_ckD 164 jm_p_X10_isComer = true ∧ jm_ckP 164 jm_p_X10_isComer = true ∧ jm_go jm_p_X10_isComer 0 0 = true := ⟨by decide +kernel, by decide +kernel, by decide +kernel⟩
theorem jm_k_X10_isMat : jm_ckD 165 jm_p_X10_isMat = true ∧ jm_ckP 165 jm_p_X10_isMat = true ∧ jm_go jm_p_X10_isMat 0 0 = true := ⟨by decide +kernel, by decide +kernel, by decide +kernel⟩
theorem jm_k_X10_liesOn : jm_ckD 166 jm_p_X10_liesOn = true ∧ jm_ckP 166 jm_p_X10_liesOn = true ∧ jm_go jm_p_X10_liesOn 0 0 = true := ⟨by decide +kernel, by decide +kernel, by decide +kernel⟩
theorem jm_k_X10_onAll : jm_ckD 167 jm_p_X10_onAll = true ∧ jm_ckP 167 jm_p_X10_onAll = true ∧ jm_go jm_p_X10_onAll 0 0 = true := ⟨by decide +kernel, by decide +kernel, by decide +kernel⟩
theorem jm_k_X10_leavesOn : jm_ckD 168 jm_p_X10_leavesOn = true ∧ jm_ckP 168 jm_p_X10_leavesOn = true ∧ jm_go jm_p_X10_leavesOn 0 0 = true := ⟨by decide +kernel, by decide +kernel, by decide +kernel⟩
theorem jm_k_X10_comesAt : jm_ckD 169 jm_p_X10_comesAt = true ∧ jm_ckP 169 jm_p_X10_comesAt = true ∧ jm_go jm_p_X10_comesAt 0 0 = true := ⟨by decide +kernel, by decide +kernel, by decide +kernel⟩
theorem jm_k_X10_beatsAt : jm_ckD 170 jm_p_X10_beatsAt = true ∧ jm_ckP 170 jm_p_X10_beatsAt = true ∧ jm_go jm_p_X10_beatsAt 0 0 = true := ⟨by decide +kernel, by decide +kernel, by decide +kernel⟩
theorem jm_k_X10_areAtOne : jm_ckD 171 jm_p_X10_areAtOne = true ∧ jm_ckP 171 jm_p_X10_areAtOne = true ∧ jm_go jm_p_X10_areAtOne 0 0 = true := ⟨by decide +kernel, by decide +kernel, by decide +kernel⟩
theorem jm_k_X10_come : jm_ckD 172 jm_p_X10_come = true ∧ jm_ckP 172 jm_p_X10_come = true ∧ jm_go jm_p_X10_come 0 0 = true := ⟨by decide +kernel, by decide +kernel, by decide +kernel⟩
theorem jm_k_X10_beat : jm_ckD 173 jm_p_X10_beat = true ∧ jm_ckP 173 jm_p_X10_beat = true ∧ jm_go jm_p_X10_beat 0 0 = true := ⟨by decide +kernel, by decide +kernel, by decide +kernel⟩
theorem jm_k_X10_swapPlaces : jm_ckD 174 jm_p_X10_swapPlaces = true ∧ jm_ckP 174 jm_p_X10_swapPlaces = true ∧ jm_go jm_p_X10_swapPlaces 0 0 = true := ⟨by decide +kernel, by decide +kernel, by decide +kernel⟩
theorem jm_k_X10_change : jm_ckD 175 jm_p_X10_change = true ∧ jm_ckP 175 jm_p_X10_change = true ∧ jm_go jm_p_X10_change 0 0 = true := ⟨by decide +kernel, by decide +kernel, by decide +kernel⟩
theorem jm_k_X10_rain : jm_ckD 176 jm_p_X10_rain = true ∧ jm_ckP 176 jm_p_X10_rain = true ∧ jm_go jm_p_X10_rain 0 0 = true := ⟨by decide +kernel, by decide +kernel, by decide +kernel⟩
theorem jm_k_X10_comer : jm_ckD 177 jm_p_X10_comer = true ∧ jm_ckP 177 jm_p_X10_comer = true ∧ jm_go jm_p_X10_comer 0 0 = true := ⟨by decide +kernel, by decide +kernel, by decide +kernel⟩
theorem jm_k_X10_masterOf : jm_ckD 178 jm_p_X10_masterOf = true ∧ jm_ckP 178 jm_p_X10_masterOf = true ∧ jm_go jm_p_X10_masterOf 0 0 = true := ⟨by decide +kernel, by decide +kernel, by decide +kernel⟩
theorem jm_k_X10_mat : jm_ckD 179 jm_p_X10_mat = true ∧ jm_ckP 179 jm_p_X10_mat = true ∧ jm_go jm_p_X10_mat 0 0 = true := ⟨by decide +kernel, by decide +kernel, by decide +kernel⟩
theorem jm_k_X10_soil : jm_ckD 180 jm_p_X10_soil = true ∧ jm_ckP 180 jm_p_X10_soil = true ∧ jm_go jm_p_X10_soil 0 0 = true := ⟨by decide +kernel, by decide +kernel, by decide +kernel⟩
theorem jm_k_X10_atOne : jm_ckD 181 jm_p_X10_atOne = true ∧ jm_ckP 181 jm_p_X10_atOne = true ∧ jm_go jm_p_X10_atOne 0 0 = true := ⟨by decide +kernel, by decide +kernel, by decide +kernel⟩
theorem jm_k_X10_layTried : jm_ckD 182 jm_p_X10_layTried = true ∧ jm_ckP 182 jm_p_X10_layTried = true ∧ jm_go jm_p_X10_layTried 0 0 = true := ⟨by decide +kernel, by decide +kernel, by decide +kernel⟩
theorem jm_k_X10_carriesIf : jm_ckD 183 jm_p_X10_carriesIf = true ∧ jm_ckP 183 jm_p_X10_carriesIf = true ∧ jm_go jm_p_X10_carriesIf 0 0 = true := ⟨by decide +kernel, by decide +kernel, by decide +kernel⟩
theorem jm_k_X10_leaves : jm_ckD 184 jm_p_X10_leaves = true ∧ jm_ckP 184 jm_p_X10_leaves = true ∧ jm_go jm_p_X10_leaves 0 0 = true := ⟨by decide +kernel, by decide +kernel, by decide +kernel⟩
theorem jm_k_X10_carries : jm_ckD 185 jm_p_X10_carries = true ∧ jm_ckP 185 jm_p_X10_carries = true ∧ jm_go jm_p_X10_carries 0 0 = true := ⟨by decide +kernel, by decide +kernel, by decide +kernel⟩
theorem jm_k_X10_clean : jm_ckD 186 jm_p_X10_clean = true ∧ jm_ckP 186 jm_p_X10_clean = true ∧ jm_go jm_p_X10_clean 0 0 = true := ⟨by decide +kernel, by decide +kernel, by decide +kernel⟩
theorem jm_k_X10_layLine : jm_ckD 187 jm_p_X10_layLine = true ∧ jm_ckP 187 jm_p_X10_layLine = true ∧ jm_go jm_p_X10_layLine 0 0 = true := ⟨by decide +kernel, by decide +kernel, by decide +kernel⟩
theorem jm_k_X10_swapLine : jm_ckD 188 jm_p_X10_swapLine = true ∧ jm_ckP 188 jm_p_X10_swapLine = true ∧ jm_go jm_p_X10_swapLine 0 0 = true := ⟨by decide +kernel, by decide +kernel, by decide +kernel⟩
theorem jm_k_X10_takeLine : jm_ckD 189 jm_p_X10_takeLine = true ∧ jm_ckP 189 jm_p_X10_takeLine = true ∧ jm_go jm_p_X10_takeLine 0 0 = true := ⟨by decide +kernel, by decide +kernel, by decide +kernel⟩
theorem jm_k_X10_nextLine : jm_ckD 190 jm_p_X10_nextLine = true ∧ jm_ckP 190 jm_p_X10_nextLine = true ∧ jm_go jm_p_X10_nextLine 0 0 = true := ⟨by decide +kernel, by decide +kernel, by decide +kernel⟩
theorem jm_k_X10_comeAll : jm_ckD 191 jm_p_X10_comeAll = true ∧ jm_ckP 191 jm_p_X10_comeAll = true ∧ jm_go jm_p_X10_comeAll 0 0 = true := ⟨by decide +kernel, by decide +kernel, by decide +kernel⟩
theorem jm_k_X10_order : jm_ckD 192 jm_p_X10_order = true ∧ jm_ckP 192 jm_p_X10_order = true ∧ jm_go jm_p_X10_order 0 0 = true := ⟨by decide +kernel, by decide +kernel, by decide +kernel⟩
theorem jm_k_X10_layMats : jm_ckD 193 jm_p_X10_layMats = true ∧ jm_ckP 193 jm_p_X10_layMats = true ∧ jm_go jm_p_X10_layMats 0 0 = true := ⟨by decide +kernel, by decide +kernel, by decide +kernel⟩
theorem jm_k_X10_laying : jm_ckD 194 jm_p_X10_laying = true ∧ jm_ckP 194 jm_p_X10_laying = true ∧ jm_go jm_p_X10_laying 0 0 = true := ⟨by decide +kernel, by decide +kernel, by decide +kernel⟩
theorem jm_k_X10_beating : jm_ckD 195 jm_p_X10_beating = true ∧ jm_ckP 195 jm_p_X10_beating = true ∧ jm_go jm_p_X10_beating 0 0 = true := ⟨by decide +kernel, by decide +kernel, by decide +kernel⟩
theorem jm_k_X10_pacts : jm_ckD 196 jm_p_X10_pacts = true ∧ jm_ckP 196 jm_p_X10_pacts = true ∧ jm_go jm_p_X10_pacts 0 0 = true := ⟨by decide +kernel, by decide +kernel, by decide +kernel⟩
theorem jm_k_X10_could : jm_ckD 197 jm_p_X10_could = true ∧ jm_ckP 197 jm_p_X10_could = true ∧ jm_go jm_p_X10_could 0 0 = true := ⟨by decide +kernel, by decide +kernel, by decide +kernel⟩
theorem jm_k_X10_noItems : jm_ckD 198 jm_p_X10_noItems = true ∧ jm_ckP 198 jm_p_X10_noItems = true ∧ jm_go jm_p_X10_noItems 0 0 = true := ⟨by decide +kernel, by decide +kernel, by decide +kernel⟩
theorem jm_k_X10_isSo : jm_ckD 199 jm_p_X10_isSo = true ∧ jm_ckP 199 jm_p_X10_isSo = true ∧ jm_go jm_p_X10_isSo 0 0 = true := ⟨by decide +kernel, by decide +kernel, by decide +kernel⟩
theorem jm_k_X10_who : jm_ckD 200 jm_p_X10_who = true ∧ jm_ckP 200 jm_p_X10_who = true ∧ jm_go jm_p_X10_who 0 0 = true := ⟨by decide +kernel, by decide +kernel, by decide +kernel⟩
theorem jm_k_X10_fits : jm_ckD 201 jm_p_X10_fits = true ∧ jm_ckP 201 jm_p_X10_fits = true ∧ jm_go jm_p_X10_fits 0 0 = true := ⟨by decide +kernel, by decide +kernel, by decide +kernel⟩
theorem jm_k_X10_absent : jm_ckD 202 jm_p_X10_absent = true ∧ jm_ckP 202 jm_p_X10_absent = true ∧ jm_go jm_p_X10_absent 0 0 = true := ⟨by decide +kernel, by decide +kernel, by decide +kernel⟩
theorem jm_k_X10_drawn : jm_ckD 203 jm_p_X10_drawn = true ∧ jm_ckP 203 jm_p_X10_drawn = true ∧ jm_go jm_p_X10_drawn 0 0 = true := ⟨by decide +kernel, by decide +kernel, by decide +kernel⟩
theorem jm_k_X10_image : jm_ckD 204 jm_p_X10_image = true ∧ jm_ckP 204 jm_p_X10_image = true ∧ jm_go jm_p_X10_image 0 0 = true := ⟨by decide +kernel, by decide +kernel, by decide +kernel⟩
theorem jm_k_X10_restore : jm_ckD 205 jm_p_X10_restore = true ∧ jm_ckP 205 jm_p_X10_restore = true ∧ jm_go jm_p_X10_restore 0 0 = true := ⟨by decide +kernel, by decide +kernel, by decide +kernel⟩
theorem jm_k_X10_kind : jm_ckD 206 jm_p_X10_kind = true ∧ jm_ckP 206 jm_p_X10_kind = true ∧ jm_go jm_p_X10_kind 0 0 = true := ⟨by decide +kernel, by decide +kernel, by decide +kernel⟩
theorem jm_k_X10_isOf : jm_ckD 207 jm_p_X10_isOf = true ∧ jm_ckP 207 jm_p_X10_isOf = true ∧ jm_go jm_p_X10_isOf 0 0 = true := ⟨by decide +kernel, by decide +kernel, by decide +kernel⟩
theorem jm_k_X10_as : jm_ckD 208 jm_p_X10_as = true ∧ jm_ckP 208 jm_p_X10_as = true ∧ jm_go jm_p_X10_as 0 0 = true := ⟨by decide +kernel, by decide +kernel, by decide +kernel⟩
theorem jm_k_X10_begin : jm_ckD 209 jm_p_X10_begin = true ∧ jm_ckP 209 jm_p_X10_begin = true ∧ jm_go jm_p_X10_begin 0 0 = true := ⟨by decide +kernel, by decide +kernel, by decide +kernel⟩
theorem jm_k_X10_lentSize : jm_ckD 210 jm_p_X10_lentSize = true ∧ jm_ckP 210 jm_p_X10_lentSize = true ∧ jm_go jm_p_X10_lentSize 0 0 = true := ⟨by decide +kernel, by decide +kernel, by decide +kernel⟩
theorem jm_k_X10_wiperSize : jm_ckD 211 jm_p_X10_wiperSize = true ∧ jm_ckP 211 jm_p_X10_wiperSize = true ∧ jm_go jm_p_X10_wiperSize 0 0 = true := ⟨by decide +kernel, by decide +kernel, by decide +kernel⟩
theorem jm_k_X10_stamperSize : jm_ckD 212 jm_p_X10_stamperSize = true ∧ jm_ckP 212 jm_p_X10_stamperSize = true ∧ jm_go jm_p_X10_stamperSize 0 0 = true := ⟨by decide +kernel, by decide +kernel, by decide +kernel⟩
theorem jm_k_X10_sizeOf : jm_ckD 213 jm_p_X10_sizeOf = true ∧ jm_ckP 213 jm_p_X10_sizeOf = true ∧ jm_go jm_p_X10_sizeOf 0 0 = true := ⟨by decide +kernel, by decide +kernel, by decide +kernel⟩
theorem jm_k_X10_lentMark : jm_ckD 214 jm_p_X10_lentMark = true ∧ jm_ckP 214 jm_p_X10_lentMark = true ∧ jm_go jm_p_X10_lentMark 0 0 = true := ⟨by decide +kernel, by decide +kernel, by decide +kernel⟩
theorem jm_k_X10_wiperMark : jm_ckD 215 jm_p_X10_wiperMark = true ∧ jm_ckP 215 jm_p_X10_wiperMark = true ∧ jm_go jm_p_X10_wiperMark 0 0 = true := ⟨by decide +kernel, by decide +kernel, by decide +kernel⟩
theorem jm_k_X10_mark : jm_ckD 216 jm_p_X10_mark = true ∧ jm_ckP 216 jm_p_X10_mark = true ∧ jm_go jm_p_X10_mark 0 0 = true := ⟨by decide +kernel, by decide +kernel, by decide +kernel⟩
theorem jm_k_X10_stamperMark : jm_ckD 217 jm_p_X10_stamperMark = true ∧ jm_ckP 217 jm_p_X10_stamperMark = true ∧ jm_go jm_p_X10_stamperMark 0 0 = true := ⟨by decide +kernel, by decide +kernel, by decide +kernel⟩
theorem jm_k_X10_ask : jm_ckD 218 jm_p_X10_ask = true ∧ jm_ckP 218 jm_p_X10_ask = true ∧ jm_go jm_p_X10_ask 0 0 = true := ⟨by decide +kernel, by decide +kernel, by decide +kernel⟩
theorem jm_k_X10_trace : jm_ckD 219 jm_p_X10_trace = true ∧ jm_ckP 219 jm_p_X10_trace = true ∧ jm_go jm_p_X10_trace 0 0 = true := ⟨by decide +kernel, by decide +kernel, by decide +kernel⟩
theorem jm_k_X10_comings : jm_ckD 220 jm_p_X10_comings = true ∧ jm_ckP 220 jm_p_X10_comings = true ∧ jm_go jm_p_X10_comings 0 0 = true := ⟨by decide +kernel, by decide +kernel, by decide +kernel⟩
theorem jm_k_X10_count : jm_ckD 221 jm_p_X10_count = true ∧ jm_ckP 221 jm_p_X10_count = true ∧ jm_go jm_p_X10_count 0 0 = true := ⟨by decide +kernel, by decide +kernel, by decide +kernel⟩
theorem jm_k_X10_status : jm_ckD 222 jm_p_X10_status = true ∧ jm_ckP 222 jm_p_X10_status = true ∧ jm_go jm_p_X10_status 0 0 = true := ⟨by decide +kernel, by decide +kernel, by decide +kernel⟩
theorem jm_k_J6_bitCount_0f7a4 : jm_ckD 223 jm_p_J6_bitCount_0f7a4 = true ∧ jm_ckP 223 jm_p_J6_bitCount_0f7a4 = true ∧ jm_go jm_p_J6_bitCount_0f7a4 0 0 = true := ⟨by decide +kernel, by decide +kernel, by decide +kernel⟩
end
section
def jm_pl_0 : List jm_E := [(0, .new 7, 3, [9, 12]), (3, .dup, 1, []), (4, .invokespecial 9, 3, [87, 93, 1817]), (7, .astore_n 1, 1, []), (8, .new 10, 3, [10, 18]), (11, .dup, 1, []), (12, .invokespecial 12, 3, [134, 9, 2202]), (15, .astore_n 2, 1, []), (16, .iconst 0, 1, []), (17, .istore_n 3, 1, []), (18, .iload_n 3, 1, []), (19, .aload_n 0, 1, []), (20, .arraylength, 1, []), (21, .bipush 6, 2, []), (23, .isub, 1, []), (24, .if_icmp .gt 1212, 3, [846]), (27, .aload_n 0, 1, []), (28, .iload_n 3, 1, []), (29, .iaload, 1, []), (30, .bipush 63, 2, []), (32, .iand, 1, []), (33, .tableswitch 1197 0 35 #[159, 202, 245, 308, 331, 354, 367, 380, 403, 426, 449, 472, 485, 518, 551, 584, 617, 650, 673, 686, 709, 732, 775, 798, 831, 864, 917, 960, 1003, 1026, 1049, 1072, 1105, 1138, 1161, 1184], 159, [0, 22, 1, 59, 2, 96, 3, 153, 4, 170, 5, 187, 6, 194, 7, 201, 8, 218, 9, 235, 10, 252, 11, 269, 12, 276, 13, 303, 14, 330, 15, 357, 16, 384, 17, 411, 18, 428, 19, 435, 20, 452, 21, 469, 22, 506, 23, 523, 24, 550, 25, 577, 26, 624, 27, 661, 28, 698, 29, 715, 30, 732, 31, 749, 32, 776, 33, 803, 34, 820, 35, 837, 844]), (192, .aload_n 1, 1, []), (193, .aload_n 0, 1, []), (194, .iload_n 3, 1, []), (195, .iconst 1, 1, []), (196, .iadd, 1, []), (197, .iaload, 1, []), (198, .aload_n 0, 1, []), (199, .iload_n 3, 1, []), (200, .iconst 2, 1, []), (201, .iadd, 1, []), (202, .iaload, 1, []), (203, .aload_n 0, 1, []), (204, .iload_n 3, 1, []), (205, .iconst 3, 1, []), (206, .iadd, 1, []), (207, .iaload, 1, []), (208, .invokevirtual 13, 3, [88, 3, 9]), (211, .aload_n 2, 1, [])]
theorem jm_dl_0 : jm_ckD 224 jm_pl_0 = true := by decide +kernel
def jm_pl_1 : List jm_E := [(212, .aload_n 0, 1, []), (213, .iload_n 3, 1, []), (214, .iconst 1, 1, []), (215, .iadd, 1, []), (216, .iaload, 1, []), (217, .aload_n 0, 1, []), (218, .iload_n 3, 1, []), (219, .iconst 2, 1, []), (220, .iadd, 1, []), (221, .iaload, 1, []), (222, .aload_n 0, 1, []), (223, .iload_n 3, 1, []), (224, .iconst 3, 1, []), (225, .iadd, 1, []), (226, .iaload, 1, []), (227, .invokevirtual 17, 3, [141, 3, 10]), (230, .if_icmp .eq 1000, 3, [844]), (233, .iconst 0, 1, []), (234, .ireturn, 1, [1]), (235, .aload_n 1, 1, []), (236, .aload_n 0, 1, []), (237, .iload_n 3, 1, []), (238, .iconst 1, 1, []), (239, .iadd, 1, []), (240, .iaload, 1, []), (241, .aload_n 0, 1, []), (242, .iload_n 3, 1, []), (243, .iconst 2, 1, []), (244, .iadd, 1, []), (245, .iaload, 1, []), (246, .aload_n 0, 1, []), (247, .iload_n 3, 1, []), (248, .iconst 3, 1, []), (249, .iadd, 1, []), (250, .iaload, 1, []), (251, .invokevirtual 18, 3, [89, 3, 9]), (254, .aload_n 2, 1, []), (255, .aload_n 0, 1, []), (256, .iload_n 3, 1, []), (257, .iconst 1, 1, [])]
theorem jm_dl_1 : jm_ckD 224 jm_pl_1 = true := by decide +kernel
def jm_pl_2 : List jm_E := [(258, .iadd, 1, []), (259, .iaload, 1, []), (260, .aload_n 0, 1, []), (261, .iload_n 3, 1, []), (262, .iconst 2, 1, []), (263, .iadd, 1, []), (264, .iaload, 1, []), (265, .aload_n 0, 1, []), (266, .iload_n 3, 1, []), (267, .iconst 3, 1, []), (268, .iadd, 1, []), (269, .iaload, 1, []), (270, .invokevirtual 21, 3, [143, 3, 10]), (273, .if_icmp .eq 957, 3, [844]), (276, .iconst 0, 1, []), (277, .ireturn, 1, [1]), (278, .aload_n 1, 1, []), (279, .aload_n 0, 1, []), (280, .iload_n 3, 1, []), (281, .iconst 1, 1, []), (282, .iadd, 1, []), (283, .iaload, 1, []), (284, .aload_n 0, 1, []), (285, .iload_n 3, 1, []), (286, .iconst 2, 1, []), (287, .iadd, 1, []), (288, .iaload, 1, []), (289, .aload_n 0, 1, []), (290, .iload_n 3, 1, []), (291, .iconst 3, 1, []), (292, .iadd, 1, []), (293, .iaload, 1, []), (294, .aload_n 0, 1, []), (295, .iload_n 3, 1, []), (296, .iconst 4, 1, []), (297, .iadd, 1, []), (298, .iaload, 1, []), (299, .aload_n 0, 1, []), (300, .iload_n 3, 1, []), (301, .iconst 5, 1, [])]
theorem jm_dl_2 : jm_ckD 224 jm_pl_2 = true := by decide +kernel
def jm_pl_3 : List jm_E := [(302, .iadd, 1, []), (303, .iaload, 1, []), (304, .invokevirtual 22, 3, [90, 5, 9]), (307, .aload_n 2, 1, []), (308, .aload_n 0, 1, []), (309, .iload_n 3, 1, []), (310, .iconst 1, 1, []), (311, .iadd, 1, []), (312, .iaload, 1, []), (313, .aload_n 0, 1, []), (314, .iload_n 3, 1, []), (315, .iconst 2, 1, []), (316, .iadd, 1, []), (317, .iaload, 1, []), (318, .aload_n 0, 1, []), (319, .iload_n 3, 1, []), (320, .iconst 3, 1, []), (321, .iadd, 1, []), (322, .iaload, 1, []), (323, .aload_n 0, 1, []), (324, .iload_n 3, 1, []), (325, .iconst 4, 1, []), (326, .iadd, 1, []), (327, .iaload, 1, []), (328, .aload_n 0, 1, []), (329, .iload_n 3, 1, []), (330, .iconst 5, 1, []), (331, .iadd, 1, []), (332, .iaload, 1, []), (333, .invokevirtual 26, 3, [145, 5, 10]), (336, .if_icmp .eq 894, 3, [844]), (339, .iconst 0, 1, []), (340, .ireturn, 1, [1]), (341, .aload_n 1, 1, []), (342, .aload_n 0, 1, []), (343, .iload_n 3, 1, []), (344, .iconst 1, 1, []), (345, .iadd, 1, []), (346, .iaload, 1, []), (347, .invokevirtual 27, 3, [91, 1, 9])]
theorem jm_dl_3 : jm_ckD 224 jm_pl_3 = true := by decide +kernel
def jm_pl_4 : List jm_E := [(350, .aload_n 2, 1, []), (351, .aload_n 0, 1, []), (352, .iload_n 3, 1, []), (353, .iconst 1, 1, []), (354, .iadd, 1, []), (355, .iaload, 1, []), (356, .invokevirtual 31, 3, [146, 1, 10]), (359, .if_icmp .eq 871, 3, [844]), (362, .iconst 0, 1, []), (363, .ireturn, 1, [1]), (364, .aload_n 1, 1, []), (365, .aload_n 0, 1, []), (366, .iload_n 3, 1, []), (367, .iconst 1, 1, []), (368, .iadd, 1, []), (369, .iaload, 1, []), (370, .invokevirtual 32, 3, [92, 1, 9]), (373, .aload_n 2, 1, []), (374, .aload_n 0, 1, []), (375, .iload_n 3, 1, []), (376, .iconst 1, 1, []), (377, .iadd, 1, []), (378, .iaload, 1, []), (379, .invokevirtual 35, 3, [147, 1, 10]), (382, .if_icmp .eq 848, 3, [844]), (385, .iconst 0, 1, []), (386, .ireturn, 1, [1]), (387, .aload_n 1, 1, []), (388, .invokevirtual 36, 3, [93, 0, 9]), (391, .aload_n 2, 1, []), (392, .invokevirtual 40, 3, [159, 0, 10]), (395, .if_icmp .eq 835, 3, [844]), (398, .iconst 0, 1, []), (399, .ireturn, 1, [1]), (400, .aload_n 1, 1, []), (401, .invokevirtual 41, 3, [94, 0, 9]), (404, .aload_n 2, 1, []), (405, .invokevirtual 44, 3, [160, 0, 10]), (408, .if_icmp .eq 822, 3, [844]), (411, .iconst 0, 1, [])]
theorem jm_dl_4 : jm_ckD 224 jm_pl_4 = true := by decide +kernel
def jm_pl_5 : List jm_E := [(412, .ireturn, 1, [1]), (413, .aload_n 1, 1, []), (414, .aload_n 0, 1, []), (415, .iload_n 3, 1, []), (416, .iconst 1, 1, []), (417, .iadd, 1, []), (418, .iaload, 1, []), (419, .invokevirtual 45, 3, [95, 1, 9]), (422, .aload_n 2, 1, []), (423, .aload_n 0, 1, []), (424, .iload_n 3, 1, []), (425, .iconst 1, 1, []), (426, .iadd, 1, []), (427, .iaload, 1, []), (428, .invokevirtual 48, 3, [172, 1, 10]), (431, .if_icmp .eq 799, 3, [844]), (434, .iconst 0, 1, []), (435, .ireturn, 1, [1]), (436, .aload_n 1, 1, []), (437, .aload_n 0, 1, []), (438, .iload_n 3, 1, []), (439, .iconst 1, 1, []), (440, .iadd, 1, []), (441, .iaload, 1, []), (442, .invokevirtual 49, 3, [96, 1, 9]), (445, .aload_n 2, 1, []), (446, .aload_n 0, 1, []), (447, .iload_n 3, 1, []), (448, .iconst 1, 1, []), (449, .iadd, 1, []), (450, .iaload, 1, []), (451, .invokevirtual 52, 3, [173, 1, 10]), (454, .if_icmp .eq 776, 3, [844]), (457, .iconst 0, 1, []), (458, .ireturn, 1, [1]), (459, .aload_n 1, 1, []), (460, .aload_n 0, 1, []), (461, .iload_n 3, 1, []), (462, .iconst 1, 1, []), (463, .iadd, 1, [])]
theorem jm_dl_5 : jm_ckD 224 jm_pl_5 = true := by decide +kernel
def jm_pl_6 : List jm_E := [(464, .iaload, 1, []), (465, .invokevirtual 53, 3, [97, 1, 9]), (468, .aload_n 2, 1, []), (469, .aload_n 0, 1, []), (470, .iload_n 3, 1, []), (471, .iconst 1, 1, []), (472, .iadd, 1, []), (473, .iaload, 1, []), (474, .invokevirtual 56, 3, [175, 1, 10]), (477, .if_icmp .eq 753, 3, [844]), (480, .iconst 0, 1, []), (481, .ireturn, 1, [1]), (482, .aload_n 1, 1, []), (483, .aload_n 0, 1, []), (484, .iload_n 3, 1, []), (485, .iconst 1, 1, []), (486, .iadd, 1, []), (487, .iaload, 1, []), (488, .invokevirtual 57, 3, [98, 1, 9]), (491, .aload_n 2, 1, []), (492, .aload_n 0, 1, []), (493, .iload_n 3, 1, []), (494, .iconst 1, 1, []), (495, .iadd, 1, []), (496, .iaload, 1, []), (497, .invokevirtual 60, 3, [176, 1, 10]), (500, .if_icmp .eq 730, 3, [844]), (503, .iconst 0, 1, []), (504, .ireturn, 1, [1]), (505, .aload_n 1, 1, []), (506, .invokevirtual 61, 3, [99, 0, 9]), (509, .aload_n 2, 1, []), (510, .invokevirtual 64, 3, [163, 0, 10]), (513, .if_icmp .eq 717, 3, [844]), (516, .iconst 0, 1, []), (517, .ireturn, 1, [1]), (518, .aload_n 1, 1, []), (519, .aload_n 0, 1, []), (520, .iload_n 3, 1, []), (521, .iconst 1, 1, [])]
theorem jm_dl_6 : jm_ckD 224 jm_pl_6 = true := by decide +kernel
def jm_pl_7 : List jm_E := [(522, .iadd, 1, []), (523, .iaload, 1, []), (524, .aload_n 0, 1, []), (525, .iload_n 3, 1, []), (526, .iconst 2, 1, []), (527, .iadd, 1, []), (528, .iaload, 1, []), (529, .invokevirtual 65, 3, [100, 2, 9]), (532, .aload_n 2, 1, []), (533, .aload_n 0, 1, []), (534, .iload_n 3, 1, []), (535, .iconst 1, 1, []), (536, .iadd, 1, []), (537, .iaload, 1, []), (538, .aload_n 0, 1, []), (539, .iload_n 3, 1, []), (540, .iconst 2, 1, []), (541, .iadd, 1, []), (542, .iaload, 1, []), (543, .invokevirtual 69, 3, [177, 2, 10]), (546, .if_icmp .eq 684, 3, [844]), (549, .iconst 0, 1, []), (550, .ireturn, 1, [1]), (551, .aload_n 1, 1, []), (552, .aload_n 0, 1, []), (553, .iload_n 3, 1, []), (554, .iconst 1, 1, []), (555, .iadd, 1, []), (556, .iaload, 1, []), (557, .aload_n 0, 1, []), (558, .iload_n 3, 1, []), (559, .iconst 2, 1, []), (560, .iadd, 1, []), (561, .iaload, 1, []), (562, .invokevirtual 70, 3, [101, 2, 9]), (565, .aload_n 2, 1, []), (566, .aload_n 0, 1, []), (567, .iload_n 3, 1, []), (568, .iconst 1, 1, []), (569, .iadd, 1, [])]
theorem jm_dl_7 : jm_ckD 224 jm_pl_7 = true := by decide +kernel
def jm_pl_8 : List jm_E := [(570, .iaload, 1, []), (571, .aload_n 0, 1, []), (572, .iload_n 3, 1, []), (573, .iconst 2, 1, []), (574, .iadd, 1, []), (575, .iaload, 1, []), (576, .invokevirtual 73, 3, [179, 2, 10]), (579, .if_icmp .eq 651, 3, [844]), (582, .iconst 0, 1, []), (583, .ireturn, 1, [1]), (584, .aload_n 1, 1, []), (585, .aload_n 0, 1, []), (586, .iload_n 3, 1, []), (587, .iconst 1, 1, []), (588, .iadd, 1, []), (589, .iaload, 1, []), (590, .aload_n 0, 1, []), (591, .iload_n 3, 1, []), (592, .iconst 2, 1, []), (593, .iadd, 1, []), (594, .iaload, 1, []), (595, .invokevirtual 74, 3, [102, 2, 9]), (598, .aload_n 2, 1, []), (599, .aload_n 0, 1, []), (600, .iload_n 3, 1, []), (601, .iconst 1, 1, []), (602, .iadd, 1, []), (603, .iaload, 1, []), (604, .aload_n 0, 1, []), (605, .iload_n 3, 1, []), (606, .iconst 2, 1, []), (607, .iadd, 1, []), (608, .iaload, 1, []), (609, .invokevirtual 77, 3, [180, 2, 10]), (612, .if_icmp .eq 618, 3, [844]), (615, .iconst 0, 1, []), (616, .ireturn, 1, [1]), (617, .aload_n 1, 1, []), (618, .aload_n 0, 1, []), (619, .iload_n 3, 1, [])]
theorem jm_dl_8 : jm_ckD 224 jm_pl_8 = true := by decide +kernel
def jm_pl_9 : List jm_E := [(620, .iconst 1, 1, []), (621, .iadd, 1, []), (622, .iaload, 1, []), (623, .aload_n 0, 1, []), (624, .iload_n 3, 1, []), (625, .iconst 2, 1, []), (626, .iadd, 1, []), (627, .iaload, 1, []), (628, .invokevirtual 78, 3, [103, 2, 9]), (631, .aload_n 2, 1, []), (632, .aload_n 0, 1, []), (633, .iload_n 3, 1, []), (634, .iconst 1, 1, []), (635, .iadd, 1, []), (636, .iaload, 1, []), (637, .aload_n 0, 1, []), (638, .iload_n 3, 1, []), (639, .iconst 2, 1, []), (640, .iadd, 1, []), (641, .iaload, 1, []), (642, .invokevirtual 81, 3, [181, 2, 10]), (645, .if_icmp .eq 585, 3, [844]), (648, .iconst 0, 1, []), (649, .ireturn, 1, [1]), (650, .aload_n 1, 1, []), (651, .aload_n 0, 1, []), (652, .iload_n 3, 1, []), (653, .iconst 1, 1, []), (654, .iadd, 1, []), (655, .iaload, 1, []), (656, .aload_n 0, 1, []), (657, .iload_n 3, 1, []), (658, .iconst 2, 1, []), (659, .iadd, 1, []), (660, .iaload, 1, []), (661, .invokevirtual 82, 3, [104, 2, 9]), (664, .aload_n 2, 1, []), (665, .aload_n 0, 1, []), (666, .iload_n 3, 1, []), (667, .iconst 1, 1, [])]
theorem jm_dl_9 : jm_ckD 224 jm_pl_9 = true := by decide +kernel
def jm_pl_10 : List jm_E := [(668, .iadd, 1, []), (669, .iaload, 1, []), (670, .aload_n 0, 1, []), (671, .iload_n 3, 1, []), (672, .iconst 2, 1, []), (673, .iadd, 1, []), (674, .iaload, 1, []), (675, .invokevirtual 85, 3, [184, 2, 10]), (678, .if_icmp .eq 552, 3, [844]), (681, .iconst 0, 1, []), (682, .ireturn, 1, [1]), (683, .aload_n 1, 1, []), (684, .aload_n 0, 1, []), (685, .iload_n 3, 1, []), (686, .iconst 1, 1, []), (687, .iadd, 1, []), (688, .iaload, 1, []), (689, .invokevirtual 86, 3, [105, 1, 9]), (692, .aload_n 2, 1, []), (693, .aload_n 0, 1, []), (694, .iload_n 3, 1, []), (695, .iconst 1, 1, []), (696, .iadd, 1, []), (697, .iaload, 1, []), (698, .invokevirtual 89, 3, [185, 1, 10]), (701, .if_icmp .eq 529, 3, [844]), (704, .iconst 0, 1, []), (705, .ireturn, 1, [1]), (706, .aload_n 1, 1, []), (707, .invokevirtual 90, 3, [106, 0, 9]), (710, .aload_n 2, 1, []), (711, .invokevirtual 93, 3, [186, 0, 10]), (714, .if_icmp .eq 516, 3, [844]), (717, .iconst 0, 1, []), (718, .ireturn, 1, [1]), (719, .aload_n 1, 1, []), (720, .aload_n 0, 1, []), (721, .iload_n 3, 1, []), (722, .iconst 1, 1, []), (723, .iadd, 1, [])]
theorem jm_dl_10 : jm_ckD 224 jm_pl_10 = true := by decide +kernel
end
section
def jm_pl_11 : List jm_E := [(724, .iaload, 1, []), (725, .invokevirtual 94, 3, [107, 1, 9]), (728, .aload_n 2, 1, []), (729, .aload_n 0, 1, []), (730, .iload_n 3, 1, []), (731, .iconst 1, 1, []), (732, .iadd, 1, []), (733, .iaload, 1, []), (734, .invokevirtual 97, 3, [192, 1, 10]), (737, .if_icmp .eq 493, 3, [844]), (740, .iconst 0, 1, []), (741, .ireturn, 1, [1]), (742, .aload_n 1, 1, []), (743, .aload_n 0, 1, []), (744, .iload_n 3, 1, []), (745, .iconst 1, 1, []), (746, .iadd, 1, []), (747, .iaload, 1, []), (748, .invokevirtual 98, 3, [108, 1, 9]), (751, .aload_n 2, 1, []), (752, .aload_n 0, 1, []), (753, .iload_n 3, 1, []), (754, .iconst 1, 1, []), (755, .iadd, 1, []), (756, .iaload, 1, []), (757, .invokevirtual 101, 3, [194, 1, 10]), (760, .if_icmp .eq 470, 3, [844]), (763, .iconst 0, 1, []), (764, .ireturn, 1, [1]), (765, .aload_n 1, 1, []), (766, .aload_n 0, 1, []), (767, .iload_n 3, 1, []), (768, .iconst 1, 1, []), (769, .iadd, 1, []), (770, .iaload, 1, []), (771, .aload_n 0, 1, []), (772, .iload_n 3, 1, []), (773, .iconst 2, 1, []), (774, .iadd, 1, []), (775, .iaload, 1, [])]
theorem jm_dl_11 : jm_ckD 224 jm_pl_11 = true := by decide +kernel
def jm_pl_12 : List jm_E := [(776, .aload_n 0, 1, []), (777, .iload_n 3, 1, []), (778, .iconst 3, 1, []), (779, .iadd, 1, []), (780, .iaload, 1, []), (781, .invokevirtual 102, 3, [109, 3, 9]), (784, .aload_n 2, 1, []), (785, .aload_n 0, 1, []), (786, .iload_n 3, 1, []), (787, .iconst 1, 1, []), (788, .iadd, 1, []), (789, .iaload, 1, []), (790, .aload_n 0, 1, []), (791, .iload_n 3, 1, []), (792, .iconst 2, 1, []), (793, .iadd, 1, []), (794, .iaload, 1, []), (795, .aload_n 0, 1, []), (796, .iload_n 3, 1, []), (797, .iconst 3, 1, []), (798, .iadd, 1, []), (799, .iaload, 1, []), (800, .invokevirtual 105, 3, [195, 3, 10]), (803, .if_icmp .eq 427, 3, [844]), (806, .iconst 0, 1, []), (807, .ireturn, 1, [1]), (808, .aload_n 1, 1, []), (809, .aload_n 0, 1, []), (810, .iload_n 3, 1, []), (811, .iconst 1, 1, []), (812, .iadd, 1, []), (813, .iaload, 1, []), (814, .invokevirtual 106, 3, [110, 1, 9]), (817, .aload_n 2, 1, []), (818, .aload_n 0, 1, []), (819, .iload_n 3, 1, []), (820, .iconst 1, 1, []), (821, .iadd, 1, []), (822, .iaload, 1, []), (823, .invokevirtual 109, 3, [196, 1, 10])]
theorem jm_dl_12 : jm_ckD 224 jm_pl_12 = true := by decide +kernel
def jm_pl_13 : List jm_E := [(826, .if_icmp .eq 404, 3, [844]), (829, .iconst 0, 1, []), (830, .ireturn, 1, [1]), (831, .aload_n 1, 1, []), (832, .aload_n 0, 1, []), (833, .iload_n 3, 1, []), (834, .iconst 1, 1, []), (835, .iadd, 1, []), (836, .iaload, 1, []), (837, .aload_n 0, 1, []), (838, .iload_n 3, 1, []), (839, .iconst 2, 1, []), (840, .iadd, 1, []), (841, .iaload, 1, []), (842, .invokevirtual 110, 3, [111, 2, 9]), (845, .aload_n 2, 1, []), (846, .aload_n 0, 1, []), (847, .iload_n 3, 1, []), (848, .iconst 1, 1, []), (849, .iadd, 1, []), (850, .iaload, 1, []), (851, .aload_n 0, 1, []), (852, .iload_n 3, 1, []), (853, .iconst 2, 1, []), (854, .iadd, 1, []), (855, .iaload, 1, []), (856, .invokevirtual 113, 3, [197, 2, 10]), (859, .if_icmp .eq 371, 3, [844]), (862, .iconst 0, 1, []), (863, .ireturn, 1, [1]), (864, .aload_n 1, 1, []), (865, .aload_n 0, 1, []), (866, .iload_n 3, 1, []), (867, .iconst 1, 1, []), (868, .iadd, 1, []), (869, .iaload, 1, []), (870, .aload_n 0, 1, []), (871, .iload_n 3, 1, []), (872, .iconst 2, 1, []), (873, .iadd, 1, [])]
theorem jm_dl_13 : jm_ckD 224 jm_pl_13 = true := by decide +kernel
def jm_pl_14 : List jm_E := [(874, .iaload, 1, []), (875, .invokevirtual 114, 3, [112, 2, 9]), (878, .aload_n 2, 1, []), (879, .aload_n 0, 1, []), (880, .iload_n 3, 1, []), (881, .iconst 1, 1, []), (882, .iadd, 1, []), (883, .iaload, 1, []), (884, .aload_n 0, 1, []), (885, .iload_n 3, 1, []), (886, .iconst 2, 1, []), (887, .iadd, 1, []), (888, .iaload, 1, []), (889, .invokevirtual 117, 3, [200, 2, 10]), (892, .if_icmp .eq 338, 3, [844]), (895, .iconst 0, 1, []), (896, .ireturn, 1, [1]), (897, .aload_n 1, 1, []), (898, .aload_n 0, 1, []), (899, .iload_n 3, 1, []), (900, .iconst 1, 1, []), (901, .iadd, 1, []), (902, .iaload, 1, []), (903, .aload_n 0, 1, []), (904, .iload_n 3, 1, []), (905, .iconst 2, 1, []), (906, .iadd, 1, []), (907, .iaload, 1, []), (908, .aload_n 0, 1, []), (909, .iload_n 3, 1, []), (910, .iconst 3, 1, []), (911, .iadd, 1, []), (912, .iaload, 1, []), (913, .aload_n 0, 1, []), (914, .iload_n 3, 1, []), (915, .iconst 4, 1, []), (916, .iadd, 1, []), (917, .iaload, 1, []), (918, .invokevirtual 118, 3, [113, 4, 9]), (921, .aload_n 2, 1, [])]
theorem jm_dl_14 : jm_ckD 224 jm_pl_14 = true := by decide +kernel
def jm_pl_15 : List jm_E := [(922, .aload_n 0, 1, []), (923, .iload_n 3, 1, []), (924, .iconst 1, 1, []), (925, .iadd, 1, []), (926, .iaload, 1, []), (927, .aload_n 0, 1, []), (928, .iload_n 3, 1, []), (929, .iconst 2, 1, []), (930, .iadd, 1, []), (931, .iaload, 1, []), (932, .aload_n 0, 1, []), (933, .iload_n 3, 1, []), (934, .iconst 3, 1, []), (935, .iadd, 1, []), (936, .iaload, 1, []), (937, .aload_n 0, 1, []), (938, .iload_n 3, 1, []), (939, .iconst 4, 1, []), (940, .iadd, 1, []), (941, .iaload, 1, []), (942, .invokevirtual 122, 3, [201, 4, 10]), (945, .if_icmp .eq 285, 3, [844]), (948, .iconst 0, 1, []), (949, .ireturn, 1, [1]), (950, .aload_n 1, 1, []), (951, .aload_n 0, 1, []), (952, .iload_n 3, 1, []), (953, .iconst 1, 1, []), (954, .iadd, 1, []), (955, .iaload, 1, []), (956, .aload_n 0, 1, []), (957, .iload_n 3, 1, []), (958, .iconst 2, 1, []), (959, .iadd, 1, []), (960, .iaload, 1, []), (961, .aload_n 0, 1, []), (962, .iload_n 3, 1, []), (963, .iconst 3, 1, []), (964, .iadd, 1, []), (965, .iaload, 1, [])]
theorem jm_dl_15 : jm_ckD 224 jm_pl_15 = true := by decide +kernel
def jm_pl_16 : List jm_E := [(966, .invokevirtual 123, 3, [114, 3, 9]), (969, .aload_n 2, 1, []), (970, .aload_n 0, 1, []), (971, .iload_n 3, 1, []), (972, .iconst 1, 1, []), (973, .iadd, 1, []), (974, .iaload, 1, []), (975, .aload_n 0, 1, []), (976, .iload_n 3, 1, []), (977, .iconst 2, 1, []), (978, .iadd, 1, []), (979, .iaload, 1, []), (980, .aload_n 0, 1, []), (981, .iload_n 3, 1, []), (982, .iconst 3, 1, []), (983, .iadd, 1, []), (984, .iaload, 1, []), (985, .invokevirtual 126, 3, [202, 3, 10]), (988, .if_icmp .eq 242, 3, [844]), (991, .iconst 0, 1, []), (992, .ireturn, 1, [1]), (993, .aload_n 1, 1, []), (994, .aload_n 0, 1, []), (995, .iload_n 3, 1, []), (996, .iconst 1, 1, []), (997, .iadd, 1, []), (998, .iaload, 1, []), (999, .aload_n 0, 1, []), (1000, .iload_n 3, 1, []), (1001, .iconst 2, 1, []), (1002, .iadd, 1, []), (1003, .iaload, 1, []), (1004, .aload_n 0, 1, []), (1005, .iload_n 3, 1, []), (1006, .iconst 3, 1, []), (1007, .iadd, 1, []), (1008, .iaload, 1, []), (1009, .invokevirtual 127, 3, [115, 3, 9]), (1012, .aload_n 2, 1, []), (1013, .aload_n 0, 1, [])]
theorem jm_dl_16 : jm_ckD 224 jm_pl_16 = true := by decide +kernel
def jm_pl_17 : List jm_E := [(1014, .iload_n 3, 1, []), (1015, .iconst 1, 1, []), (1016, .iadd, 1, []), (1017, .iaload, 1, []), (1018, .aload_n 0, 1, []), (1019, .iload_n 3, 1, []), (1020, .iconst 2, 1, []), (1021, .iadd, 1, []), (1022, .iaload, 1, []), (1023, .aload_n 0, 1, []), (1024, .iload_n 3, 1, []), (1025, .iconst 3, 1, []), (1026, .iadd, 1, []), (1027, .iaload, 1, []), (1028, .invokevirtual 130, 3, [203, 3, 10]), (1031, .if_icmp .eq 199, 3, [844]), (1034, .iconst 0, 1, []), (1035, .ireturn, 1, [1]), (1036, .aload_n 1, 1, []), (1037, .aload_n 0, 1, []), (1038, .iload_n 3, 1, []), (1039, .iconst 1, 1, []), (1040, .iadd, 1, []), (1041, .iaload, 1, []), (1042, .invokevirtual 131, 3, [116, 1, 9]), (1045, .aload_n 2, 1, []), (1046, .aload_n 0, 1, []), (1047, .iload_n 3, 1, []), (1048, .iconst 1, 1, []), (1049, .iadd, 1, []), (1050, .iaload, 1, []), (1051, .invokevirtual 134, 3, [204, 1, 10]), (1054, .if_icmp .eq 176, 3, [844]), (1057, .iconst 0, 1, []), (1058, .ireturn, 1, [1]), (1059, .aload_n 1, 1, []), (1060, .aload_n 0, 1, []), (1061, .iload_n 3, 1, []), (1062, .iconst 1, 1, []), (1063, .iadd, 1, [])]
theorem jm_dl_17 : jm_ckD 224 jm_pl_17 = true := by decide +kernel
def jm_pl_18 : List jm_E := [(1064, .iaload, 1, []), (1065, .invokevirtual 135, 3, [117, 1, 9]), (1068, .aload_n 2, 1, []), (1069, .aload_n 0, 1, []), (1070, .iload_n 3, 1, []), (1071, .iconst 1, 1, []), (1072, .iadd, 1, []), (1073, .iaload, 1, []), (1074, .invokevirtual 138, 3, [205, 1, 10]), (1077, .if_icmp .eq 153, 3, [844]), (1080, .iconst 0, 1, []), (1081, .ireturn, 1, [1]), (1082, .aload_n 1, 1, []), (1083, .aload_n 0, 1, []), (1084, .iload_n 3, 1, []), (1085, .iconst 1, 1, []), (1086, .iadd, 1, []), (1087, .iaload, 1, []), (1088, .invokevirtual 139, 3, [118, 1, 9]), (1091, .aload_n 2, 1, []), (1092, .aload_n 0, 1, []), (1093, .iload_n 3, 1, []), (1094, .iconst 1, 1, []), (1095, .iadd, 1, []), (1096, .iaload, 1, []), (1097, .invokevirtual 142, 3, [206, 1, 10]), (1100, .if_icmp .eq 130, 3, [844]), (1103, .iconst 0, 1, []), (1104, .ireturn, 1, [1]), (1105, .aload_n 1, 1, []), (1106, .aload_n 0, 1, []), (1107, .iload_n 3, 1, []), (1108, .iconst 1, 1, []), (1109, .iadd, 1, []), (1110, .iaload, 1, []), (1111, .aload_n 0, 1, []), (1112, .iload_n 3, 1, []), (1113, .iconst 2, 1, []), (1114, .iadd, 1, []), (1115, .iaload, 1, [])]
theorem jm_dl_18 : jm_ckD 224 jm_pl_18 = true := by decide +kernel
def jm_pl_19 : List jm_E := [(1116, .invokevirtual 143, 3, [119, 2, 9]), (1119, .aload_n 2, 1, []), (1120, .aload_n 0, 1, []), (1121, .iload_n 3, 1, []), (1122, .iconst 1, 1, []), (1123, .iadd, 1, []), (1124, .iaload, 1, []), (1125, .aload_n 0, 1, []), (1126, .iload_n 3, 1, []), (1127, .iconst 2, 1, []), (1128, .iadd, 1, []), (1129, .iaload, 1, []), (1130, .invokevirtual 146, 3, [208, 2, 10]), (1133, .if_icmp .eq 97, 3, [844]), (1136, .iconst 0, 1, []), (1137, .ireturn, 1, [1]), (1138, .aload_n 1, 1, []), (1139, .aload_n 0, 1, []), (1140, .iload_n 3, 1, []), (1141, .iconst 1, 1, []), (1142, .iadd, 1, []), (1143, .iaload, 1, []), (1144, .aload_n 0, 1, []), (1145, .iload_n 3, 1, []), (1146, .iconst 2, 1, []), (1147, .iadd, 1, []), (1148, .iaload, 1, []), (1149, .invokevirtual 147, 3, [120, 2, 9]), (1152, .aload_n 2, 1, []), (1153, .aload_n 0, 1, []), (1154, .iload_n 3, 1, []), (1155, .iconst 1, 1, []), (1156, .iadd, 1, []), (1157, .iaload, 1, []), (1158, .aload_n 0, 1, []), (1159, .iload_n 3, 1, []), (1160, .iconst 2, 1, []), (1161, .iadd, 1, []), (1162, .iaload, 1, []), (1163, .invokevirtual 150, 3, [218, 2, 10])]
theorem jm_dl_19 : jm_ckD 224 jm_pl_19 = true := by decide +kernel
def jm_pl_20 : List jm_E := [(1166, .if_icmp .eq 64, 3, [844]), (1169, .iconst 0, 1, []), (1170, .ireturn, 1, [1]), (1171, .aload_n 1, 1, []), (1172, .aload_n 0, 1, []), (1173, .iload_n 3, 1, []), (1174, .iconst 1, 1, []), (1175, .iadd, 1, []), (1176, .iaload, 1, []), (1177, .invokevirtual 151, 3, [121, 1, 9]), (1180, .aload_n 2, 1, []), (1181, .aload_n 0, 1, []), (1182, .iload_n 3, 1, []), (1183, .iconst 1, 1, []), (1184, .iadd, 1, []), (1185, .iaload, 1, []), (1186, .invokevirtual 154, 3, [219, 1, 10]), (1189, .if_icmp .eq 41, 3, [844]), (1192, .iconst 0, 1, []), (1193, .ireturn, 1, [1]), (1194, .aload_n 1, 1, []), (1195, .aload_n 0, 1, []), (1196, .iload_n 3, 1, []), (1197, .iconst 1, 1, []), (1198, .iadd, 1, []), (1199, .iaload, 1, []), (1200, .invokevirtual 155, 3, [122, 1, 9]), (1203, .aload_n 2, 1, []), (1204, .aload_n 0, 1, []), (1205, .iload_n 3, 1, []), (1206, .iconst 1, 1, []), (1207, .iadd, 1, []), (1208, .iaload, 1, []), (1209, .invokevirtual 158, 3, [221, 1, 10]), (1212, .if_icmp .eq 18, 3, [844]), (1215, .iconst 0, 1, []), (1216, .ireturn, 1, [1]), (1217, .aload_n 1, 1, []), (1218, .invokevirtual 159, 3, [123, 0, 9]), (1221, .aload_n 2, 1, [])]
theorem jm_dl_20 : jm_ckD 224 jm_pl_20 = true := by decide +kernel
def jm_pl_21 : List jm_E := [(1222, .invokevirtual 162, 3, [222, 0, 10]), (1225, .if_icmp .eq 5, 3, [844]), (1228, .iconst 0, 1, []), (1229, .ireturn, 1, [1]), (1230, .iinc 3 6, 3, []), (1233, .goto (-1215), 3, [10]), (1236, .iconst 1, 1, []), (1237, .ireturn, 1, [1])]
theorem jm_dl_21 : jm_ckD 224 jm_pl_21 = true := by decide +kernel
end
section
theorem jm_l_eq : jm_p_L_law = jm_pl_0 ++ (jm_pl_1 ++ (jm_pl_2 ++ (jm_pl_3 ++ (jm_pl_4 ++ (jm_pl_5 ++ (jm_pl_6 ++ (jm_pl_7 ++ (jm_pl_8 ++ (jm_pl_9 ++ (jm_pl_10 ++ (jm_pl_11 ++ (jm_pl_12 ++ (jm_pl_13 ++ (jm_pl_14 ++ (jm_pl_15 ++ (jm_pl_16 ++ (jm_pl_17 ++ (jm_pl_18 ++ (jm_pl_19 ++ (jm_pl_20 ++ (jm_pl_21))))))))))))))))))))) := by decide +kernel
theorem jm_ckD_app {n : Nat} {a b : List jm_E} (ha : jm_ckD n a = true) (hb : jm_ckD n b = true) : jm_ckD n (a ++ b) = true := by unfold jm_ckD at *; rw [List.all_append, ha, hb]; rfl
theorem jm_k_law : jm_ckD 224 jm_p_L_law = true ∧ jm_ckP 224 jm_p_L_law = true ∧ jm_go jm_p_L_law 0 0 = true := ⟨by rw [jm_l_eq]; exact jm_ckD_app jm_dl_0 (jm_ckD_app jm_dl_1 (jm_ckD_app jm_dl_2 (jm_ckD_app jm_dl_3 (jm_ckD_app jm_dl_4 (jm_ckD_app jm_dl_5 (jm_ckD_app jm_dl_6 (jm_ckD_app jm_dl_7 (jm_ckD_app jm_dl_8 (jm_ckD_app jm_dl_9 (jm_ckD_app jm_dl_10 (jm_ckD_app jm_dl_11 (jm_ckD_app jm_dl_12 (jm_ckD_app jm_dl_13 (jm_ckD_app jm_dl_14 (jm_ckD_app jm_dl_15 (jm_ckD_app jm_dl_16 (jm_ckD_app jm_dl_17 (jm_ckD_app jm_dl_18 (jm_ckD_app jm_dl_19 (jm_ckD_app jm_dl_20 (jm_dl_21))))))))))))))))))))), by decide +kernel, by decide +kernel⟩
def jm_kq (q : List jm_E × Nat) : Prop := jm_ckD q.2 q.1 = true ∧ jm_ckP q.2 q.1 = true ∧ jm_go q.1 0 0 = true
theorem jm_kr_0 : ∀ q ∈ [(jm_p_X0_init, 0), (jm_p_X0_answer, 1), (jm_p_X0_traced, 2), (jm_p_X0_bodyOf, 3), (jm_p_X0_leaveTrace, 4), (jm_p_X0_give, 5), (jm_p_X1_init, 6), (jm_p_X1_takeOver, 7), (jm_p_X1_wipes, 8), (jm_p_X1_isOf, 9), (jm_p_X2_init, 10), (jm_p_X2_cleanOnes, 11), (jm_p_X2_told, 12), (jm_p_X2_seekOrder, 13), (jm_p_X2_tryOrders, 14), (jm_p_X2_seekLaying, 15), (jm_p_X2_tryLayings, 16), (jm_p_X2_keepTried, 17), (jm_p_X2_fewestBeaten, 18), (jm_p_X2_carriedIfBeaten, 19), (jm_p_X2_uniters, 20), (jm_p_X2_bindsTo, 21), (jm_p_X2_culprits, 22), (jm_p_X2_tryAs, 23), (jm_p_X2_fitting, 24), (jm_p_X2_giveTrait, 25), (jm_p_X2_isSoBehind, 26), (jm_p_X2_likelihood, 27)], jm_kq q := List.forall_mem_cons.mpr ⟨jm_k_X0_init, List.forall_mem_cons.mpr ⟨jm_k_X0_answer, List.forall_mem_cons.mpr ⟨jm_k_X0_traced, List.forall_mem_cons.mpr ⟨jm_k_X0_bodyOf, List.forall_mem_cons.mpr ⟨jm_k_X0_leaveTrace, List.forall_mem_cons.mpr ⟨jm_k_X0_give, List.forall_mem_cons.mpr ⟨jm_k_X1_init, List.forall_mem_cons.mpr ⟨jm_k_X1_takeOver, List.forall_mem_cons.mpr ⟨jm_k_X1_wipes, List.forall_mem_cons.mpr ⟨jm_k_X1_isOf, List.forall_mem_cons.mpr ⟨jm_k_X2_init, List.forall_mem_cons.mpr ⟨jm_k_X2_cleanOnes, List.forall_mem_cons.mpr ⟨jm_k_X2_told, List.forall_mem_cons.mpr ⟨jm_k_X2_seekOrder, List.forall_mem_cons.mpr ⟨jm_k_X2_tryOrders, List.forall_mem_cons.mpr ⟨jm_k_X2_seekLaying, List.forall_mem_cons.mpr ⟨jm_k_X2_tryLayings, List.forall_mem_cons.mpr ⟨jm_k_X2_keepTried, List.forall_mem_cons.mpr ⟨jm_k_X2_fewestBeaten, List.forall_mem_cons.mpr ⟨jm_k_X2_carriedIfBeaten, List.forall_mem_cons.mpr ⟨jm_k_X2_uniters, List.forall_mem_cons.mpr ⟨jm_k_X2_bindsTo, List.forall_mem_cons.mpr ⟨jm_k_X2_culprits, List.forall_mem_cons.mpr ⟨jm_k_X2_tryAs, List.forall_mem_cons.mpr ⟨jm_k_X2_fitting, List.forall_mem_cons.mpr ⟨jm_k_X2_giveTrait, List.forall_mem_cons.mpr ⟨jm_k_X2_isSoBehind, List.forall_mem_cons.mpr ⟨jm_k_X2_likelihood, fun _ h => absurd h List.not_mem_nil⟩⟩⟩⟩⟩⟩⟩⟩⟩⟩⟩⟩⟩⟩⟩⟩⟩⟩⟩⟩⟩⟩⟩⟩⟩⟩⟩⟩
theorem jm_kr_1 : ∀ q ∈ [(jm_p_X2_weight, 28), (jm_p_X2_commonDivisor, 29), (jm_p_X2_years, 30), (jm_p_X3_init, 31), (jm_p_X3_isEmpty, 32), (jm_p_X3_size, 33), (jm_p_X3_forget, 34), (jm_p_X3_keep, 35), (jm_p_X3_takeBack, 36), (jm_p_X4_init, 37), (jm_p_X4_clear, 38), (jm_p_X4_takeOver, 39), (jm_p_X4_writeCells, 40), (jm_p_X4_readCells, 41), (jm_p_X4_allComers, 42), (jm_p_X4_receive, 43), (jm_p_X4_swapWithNext, 44), (jm_p_X4_rainOnAll, 45), (jm_p_X4_areAtOne, 46), (jm_p_X4_pactCount, 47), (jm_p_X4_firstPact, 48), (jm_p_X4_lyingInAll, 49), (jm_p_X4_comings, 50), (jm_p_X5_init, 51), (jm_p_X5_lying, 52), (jm_p_X5_master, 53), (jm_p_X5_empty, 54), (jm_p_X5_takeOver, 55)], jm_kq q := List.forall_mem_cons.mpr ⟨jm_k_X2_weight, List.forall_mem_cons.mpr ⟨jm_k_X2_commonDivisor, List.forall_mem_cons.mpr ⟨jm_k_X2_years, List.forall_mem_cons.mpr ⟨jm_k_X3_init, List.forall_mem_cons.mpr ⟨jm_k_X3_isEmpty, List.forall_mem_cons.mpr ⟨jm_k_X3_size, List.forall_mem_cons.mpr ⟨jm_k_X3_forget, List.forall_mem_cons.mpr ⟨jm_k_X3_keep, List.forall_mem_cons.mpr ⟨jm_k_X3_takeBack, List.forall_mem_cons.mpr ⟨jm_k_X4_init, List.forall_mem_cons.mpr ⟨jm_k_X4_clear, List.forall_mem_cons.mpr ⟨jm_k_X4_takeOver, List.forall_mem_cons.mpr ⟨jm_k_X4_writeCells, List.forall_mem_cons.mpr ⟨jm_k_X4_readCells, List.forall_mem_cons.mpr ⟨jm_k_X4_allComers, List.forall_mem_cons.mpr ⟨jm_k_X4_receive, List.forall_mem_cons.mpr ⟨jm_k_X4_swapWithNext, List.forall_mem_cons.mpr ⟨jm_k_X4_rainOnAll, List.forall_mem_cons.mpr ⟨jm_k_X4_areAtOne, List.forall_mem_cons.mpr ⟨jm_k_X4_pactCount, List.forall_mem_cons.mpr ⟨jm_k_X4_firstPact, List.forall_mem_cons.mpr ⟨jm_k_X4_lyingInAll, List.forall_mem_cons.mpr ⟨jm_k_X4_comings, List.forall_mem_cons.mpr ⟨jm_k_X5_init, List.forall_mem_cons.mpr ⟨jm_k_X5_lying, List.forall_mem_cons.mpr ⟨jm_k_X5_master, List.forall_mem_cons.mpr ⟨jm_k_X5_empty, List.forall_mem_cons.mpr ⟨jm_k_X5_takeOver, fun _ h => absurd h List.not_mem_nil⟩⟩⟩⟩⟩⟩⟩⟩⟩⟩⟩⟩⟩⟩⟩⟩⟩⟩⟩⟩⟩⟩⟩⟩⟩⟩⟩⟩
theorem jm_kr_2 : ∀ q ∈ [(jm_p_X6_init, 56), (jm_p_X6_isFull, 57), (jm_p_X6_size, 58), (jm_p_X6_append, 59), (jm_p_X6_place, 60), (jm_p_X6_readInto, 61), (jm_p_X6_readLaw, 62), (jm_p_X6_readMats, 63), (jm_p_X6_readComers, 64), (jm_p_X6_readTraits, 65), (jm_p_X6_sortOf, 66), (jm_p_X6_seen, 67), (jm_p_X6_refuse, 68), (jm_p_X6_takeByte, 69), (jm_p_X6_takeNumber, 70), (jm_p_X6_isFigure, 71), (jm_p_X7_init, 72), (jm_p_X7_isMissing, 73), (jm_p_X7_sameLane, 74), (jm_p_X7_reaches, 75), (jm_p_X7_item, 76), (jm_p_X7_make, 77), (jm_p_X7_put, 78), (jm_p_X7_carryOver, 79), (jm_p_X7_remove, 80), (jm_p_X7_present, 81), (jm_p_X8_init, 82), (jm_p_X8_begin, 83)], jm_kq q := List.forall_mem_cons.mpr ⟨jm_k_X6_init, List.forall_mem_cons.mpr ⟨jm_k_X6_isFull, List.forall_mem_cons.mpr ⟨jm_k_X6_size, List.forall_mem_cons.mpr ⟨jm_k_X6_append, List.forall_mem_cons.mpr ⟨jm_k_X6_place, List.forall_mem_cons.mpr ⟨jm_k_X6_readInto, List.forall_mem_cons.mpr ⟨jm_k_X6_readLaw, List.forall_mem_cons.mpr ⟨jm_k_X6_readMats, List.forall_mem_cons.mpr ⟨jm_k_X6_readComers, List.forall_mem_cons.mpr ⟨jm_k_X6_readTraits, List.forall_mem_cons.mpr ⟨jm_k_X6_sortOf, List.forall_mem_cons.mpr ⟨jm_k_X6_seen, List.forall_mem_cons.mpr ⟨jm_k_X6_refuse, List.forall_mem_cons.mpr ⟨jm_k_X6_takeByte, List.forall_mem_cons.mpr ⟨jm_k_X6_takeNumber, List.forall_mem_cons.mpr ⟨jm_k_X6_isFigure, List.forall_mem_cons.mpr ⟨jm_k_X7_init, List.forall_mem_cons.mpr ⟨jm_k_X7_isMissing, List.forall_mem_cons.mpr ⟨jm_k_X7_sameLane, List.forall_mem_cons.mpr ⟨jm_k_X7_reaches, List.forall_mem_cons.mpr ⟨jm_k_X7_item, List.forall_mem_cons.mpr ⟨jm_k_X7_make, List.forall_mem_cons.mpr ⟨jm_k_X7_put, List.forall_mem_cons.mpr ⟨jm_k_X7_carryOver, List.forall_mem_cons.mpr ⟨jm_k_X7_remove, List.forall_mem_cons.mpr ⟨jm_k_X7_present, List.forall_mem_cons.mpr ⟨jm_k_X8_init, List.forall_mem_cons.mpr ⟨jm_k_X8_begin, fun _ h => absurd h List.not_mem_nil⟩⟩⟩⟩⟩⟩⟩⟩⟩⟩⟩⟩⟩⟩⟩⟩⟩⟩⟩⟩⟩⟩⟩⟩⟩⟩⟩⟩
theorem jm_kr_3 : ∀ q ∈ [(jm_p_X8_goOver, 84), (jm_p_X8_allGoOver, 85), (jm_p_X8_lyingInAll, 86), (jm_p_X9_init, 87), (jm_p_X9_row, 88), (jm_p_X9_set, 89), (jm_p_X9_copy, 90), (jm_p_X9_drop, 91), (jm_p_X9_feed, 92), (jm_p_X9_hotel, 93), (jm_p_X9_fault, 94), (jm_p_X9_come, 95), (jm_p_X9_beat, 96), (jm_p_X9_change, 97), (jm_p_X9_rain, 98), (jm_p_X9_undo, 99), (jm_p_X9_comer, 100), (jm_p_X9_mat, 101), (jm_p_X9_soil, 102), (jm_p_X9_atOne, 103), (jm_p_X9_leaves, 104), (jm_p_X9_carries, 105), (jm_p_X9_clean, 106), (jm_p_X9_order, 107), (jm_p_X9_laying, 108), (jm_p_X9_beating, 109), (jm_p_X9_pacts, 110), (jm_p_X9_could, 111)], jm_kq q := List.forall_mem_cons.mpr ⟨jm_k_X8_goOver, List.forall_mem_cons.mpr ⟨jm_k_X8_allGoOver, List.forall_mem_cons.mpr ⟨jm_k_X8_lyingInAll, List.forall_mem_cons.mpr ⟨jm_k_X9_init, List.forall_mem_cons.mpr ⟨jm_k_X9_row, List.forall_mem_cons.mpr ⟨jm_k_X9_set, List.forall_mem_cons.mpr ⟨jm_k_X9_copy, List.forall_mem_cons.mpr ⟨jm_k_X9_drop, List.forall_mem_cons.mpr ⟨jm_k_X9_feed, List.forall_mem_cons.mpr ⟨jm_k_X9_hotel, List.forall_mem_cons.mpr ⟨jm_k_X9_fault, List.forall_mem_cons.mpr ⟨jm_k_X9_come, List.forall_mem_cons.mpr ⟨jm_k_X9_beat, List.forall_mem_cons.mpr ⟨jm_k_X9_change, List.forall_mem_cons.mpr ⟨jm_k_X9_rain, List.forall_mem_cons.mpr ⟨jm_k_X9_undo, List.forall_mem_cons.mpr ⟨jm_k_X9_comer, List.forall_mem_cons.mpr ⟨jm_k_X9_mat, List.forall_mem_cons.mpr ⟨jm_k_X9_soil, List.forall_mem_cons.mpr ⟨jm_k_X9_atOne, List.forall_mem_cons.mpr ⟨jm_k_X9_leaves, List.forall_mem_cons.mpr ⟨jm_k_X9_carries, List.forall_mem_cons.mpr ⟨jm_k_X9_clean, List.forall_mem_cons.mpr ⟨jm_k_X9_order, List.forall_mem_cons.mpr ⟨jm_k_X9_laying, List.forall_mem_cons.mpr ⟨jm_k_X9_beating, List.forall_mem_cons.mpr ⟨jm_k_X9_pacts, List.forall_mem_cons.mpr ⟨jm_k_X9_could, fun _ h => absurd h List.not_mem_nil⟩⟩⟩⟩⟩⟩⟩⟩⟩⟩⟩⟩⟩⟩⟩⟩⟩⟩⟩⟩⟩⟩⟩⟩⟩⟩⟩⟩
theorem jm_kr_4 : ∀ q ∈ [(jm_p_X9_who, 112), (jm_p_X9_fits, 113), (jm_p_X9_absent, 114), (jm_p_X9_drawn, 115), (jm_p_X9_image, 116), (jm_p_X9_restore, 117), (jm_p_X9_kind, 118), (jm_p_X9_as, 119), (jm_p_X9_ask, 120), (jm_p_X9_trace, 121), (jm_p_X9_count, 122), (jm_p_X9_status, 123), (jm_p_X9_noRow, 124), (jm_p_X9_noImage, 125), (jm_p_X9_noCarried, 126), (jm_p_X9_neither, 127), (jm_p_X9_noHotel, 128), (jm_p_X9_noComer, 129), (jm_p_X9_noMat, 130), (jm_p_X9_found, 131), (jm_p_X9_unfound, 132), (jm_p_X9_matRowFinding, 133), (jm_p_X10_init, 134), (jm_p_X10_in, 135), (jm_p_X10_has, 136), (jm_p_X10_bits, 137), (jm_p_X10_find, 138), (jm_p_X10_well, 139)], jm_kq q := List.forall_mem_cons.mpr ⟨jm_k_X9_who, List.forall_mem_cons.mpr ⟨jm_k_X9_fits, List.forall_mem_cons.mpr ⟨jm_k_X9_absent, List.forall_mem_cons.mpr ⟨jm_k_X9_drawn, List.forall_mem_cons.mpr ⟨jm_k_X9_image, List.forall_mem_cons.mpr ⟨jm_k_X9_restore, List.forall_mem_cons.mpr ⟨jm_k_X9_kind, List.forall_mem_cons.mpr ⟨jm_k_X9_as, List.forall_mem_cons.mpr ⟨jm_k_X9_ask, List.forall_mem_cons.mpr ⟨jm_k_X9_trace, List.forall_mem_cons.mpr ⟨jm_k_X9_count, List.forall_mem_cons.mpr ⟨jm_k_X9_status, List.forall_mem_cons.mpr ⟨jm_k_X9_noRow, List.forall_mem_cons.mpr ⟨jm_k_X9_noImage, List.forall_mem_cons.mpr ⟨jm_k_X9_noCarried, List.forall_mem_cons.mpr ⟨jm_k_X9_neither, List.forall_mem_cons.mpr ⟨jm_k_X9_noHotel, List.forall_mem_cons.mpr ⟨jm_k_X9_noComer, List.forall_mem_cons.mpr ⟨jm_k_X9_noMat, List.forall_mem_cons.mpr ⟨jm_k_X9_found, List.forall_mem_cons.mpr ⟨jm_k_X9_unfound, List.forall_mem_cons.mpr ⟨jm_k_X9_matRowFinding, List.forall_mem_cons.mpr ⟨jm_k_X10_init, List.forall_mem_cons.mpr ⟨jm_k_X10_in, List.forall_mem_cons.mpr ⟨jm_k_X10_has, List.forall_mem_cons.mpr ⟨jm_k_X10_bits, List.forall_mem_cons.mpr ⟨jm_k_X10_find, List.forall_mem_cons.mpr ⟨jm_k_X10_well, fun _ h => absurd h List.not_mem_nil⟩⟩⟩⟩⟩⟩⟩⟩⟩⟩⟩⟩⟩⟩⟩⟩⟩⟩⟩⟩⟩⟩⟩⟩⟩⟩⟩⟩
theorem jm_kr_5 : ∀ q ∈ [(jm_p_X10_isRow, 140), (jm_p_X10_row, 141), (jm_p_X10_narrow, 142), (jm_p_X10_set, 143), (jm_p_X10_isSpan, 144), (jm_p_X10_copy, 145), (jm_p_X10_drop, 146), (jm_p_X10_feed, 147), (jm_p_X10_isLetter, 148), (jm_p_X10_isFigure, 149), (jm_p_X10_refuse, 150), (jm_p_X10_sign, 151), (jm_p_X10_readsNumber, 152), (jm_p_X10_readsLaw, 153), (jm_p_X10_readsMat, 154), (jm_p_X10_kindOfLetter, 155), (jm_p_X10_readsComer, 156), (jm_p_X10_isSort, 157), (jm_p_X10_reads, 158), (jm_p_X10_hotel, 159), (jm_p_X10_fault, 160), (jm_p_X10_copyTown, 161), (jm_p_X10_keepPast, 162), (jm_p_X10_undo, 163), (jm_p_X10_isComer, 164), (jm_p_X10_isMat, 165), (jm_p_X10_liesOn, 166), (jm_p_X10_onAll, 167)], jm_kq q := List.forall_mem_cons.mpr ⟨jm_k_X10_isRow, List.forall_mem_cons.mpr ⟨jm_k_X10_row, List.forall_mem_cons.mpr ⟨jm_k_X10_narrow, List.forall_mem_cons.mpr ⟨jm_k_X10_set, List.forall_mem_cons.mpr ⟨jm_k_X10_isSpan, List.forall_mem_cons.mpr ⟨jm_k_X10_copy, List.forall_mem_cons.mpr ⟨jm_k_X10_drop, List.forall_mem_cons.mpr ⟨jm_k_X10_feed, List.forall_mem_cons.mpr ⟨jm_k_X10_isLetter, List.forall_mem_cons.mpr ⟨jm_k_X10_isFigure, List.forall_mem_cons.mpr ⟨jm_k_X10_refuse, List.forall_mem_cons.mpr ⟨jm_k_X10_sign, List.forall_mem_cons.mpr ⟨jm_k_X10_readsNumber, List.forall_mem_cons.mpr ⟨jm_k_X10_readsLaw, List.forall_mem_cons.mpr ⟨jm_k_X10_readsMat, List.forall_mem_cons.mpr ⟨jm_k_X10_kindOfLetter, List.forall_mem_cons.mpr ⟨jm_k_X10_readsComer, List.forall_mem_cons.mpr ⟨jm_k_X10_isSort, List.forall_mem_cons.mpr ⟨jm_k_X10_reads, List.forall_mem_cons.mpr ⟨jm_k_X10_hotel, List.forall_mem_cons.mpr ⟨jm_k_X10_fault, List.forall_mem_cons.mpr ⟨jm_k_X10_copyTown, List.forall_mem_cons.mpr ⟨jm_k_X10_keepPast, List.forall_mem_cons.mpr ⟨jm_k_X10_undo, List.forall_mem_cons.mpr ⟨jm_k_X10_isComer, List.forall_mem_cons.mpr ⟨jm_k_X10_isMat, List.forall_mem_cons.mpr ⟨jm_k_X10_liesOn, List.forall_mem_cons.mpr ⟨jm_k_X10_onAll, fun _ h => absurd h List.not_mem_nil⟩⟩⟩⟩⟩⟩⟩⟩⟩⟩⟩⟩⟩⟩⟩⟩⟩⟩⟩⟩⟩⟩⟩⟩⟩⟩⟩⟩
theorem jm_kr_6 : ∀ q ∈ [(jm_p_X10_leavesOn, 168), (jm_p_X10_comesAt, 169), (jm_p_X10_beatsAt, 170), (jm_p_X10_areAtOne, 171), (jm_p_X10_come, 172), (jm_p_X10_beat, 173), (jm_p_X10_swapPlaces, 174), (jm_p_X10_change, 175), (jm_p_X10_rain, 176), (jm_p_X10_comer, 177), (jm_p_X10_masterOf, 178), (jm_p_X10_mat, 179), (jm_p_X10_soil, 180), (jm_p_X10_atOne, 181), (jm_p_X10_layTried, 182), (jm_p_X10_carriesIf, 183), (jm_p_X10_leaves, 184), (jm_p_X10_carries, 185), (jm_p_X10_clean, 186), (jm_p_X10_layLine, 187), (jm_p_X10_swapLine, 188), (jm_p_X10_takeLine, 189), (jm_p_X10_nextLine, 190), (jm_p_X10_comeAll, 191), (jm_p_X10_order, 192), (jm_p_X10_layMats, 193), (jm_p_X10_laying, 194), (jm_p_X10_beating, 195)], jm_kq q := List.forall_mem_cons.mpr ⟨jm_k_X10_leavesOn, List.forall_mem_cons.mpr ⟨jm_k_X10_comesAt, List.forall_mem_cons.mpr ⟨jm_k_X10_beatsAt, List.forall_mem_cons.mpr ⟨jm_k_X10_areAtOne, List.forall_mem_cons.mpr ⟨jm_k_X10_come, List.forall_mem_cons.mpr ⟨jm_k_X10_beat, List.forall_mem_cons.mpr ⟨jm_k_X10_swapPlaces, List.forall_mem_cons.mpr ⟨jm_k_X10_change, List.forall_mem_cons.mpr ⟨jm_k_X10_rain, List.forall_mem_cons.mpr ⟨jm_k_X10_comer, List.forall_mem_cons.mpr ⟨jm_k_X10_masterOf, List.forall_mem_cons.mpr ⟨jm_k_X10_mat, List.forall_mem_cons.mpr ⟨jm_k_X10_soil, List.forall_mem_cons.mpr ⟨jm_k_X10_atOne, List.forall_mem_cons.mpr ⟨jm_k_X10_layTried, List.forall_mem_cons.mpr ⟨jm_k_X10_carriesIf, List.forall_mem_cons.mpr ⟨jm_k_X10_leaves, List.forall_mem_cons.mpr ⟨jm_k_X10_carries, List.forall_mem_cons.mpr ⟨jm_k_X10_clean, List.forall_mem_cons.mpr ⟨jm_k_X10_layLine, List.forall_mem_cons.mpr ⟨jm_k_X10_swapLine, List.forall_mem_cons.mpr ⟨jm_k_X10_takeLine, List.forall_mem_cons.mpr ⟨jm_k_X10_nextLine, List.forall_mem_cons.mpr ⟨jm_k_X10_comeAll, List.forall_mem_cons.mpr ⟨jm_k_X10_order, List.forall_mem_cons.mpr ⟨jm_k_X10_layMats, List.forall_mem_cons.mpr ⟨jm_k_X10_laying, List.forall_mem_cons.mpr ⟨jm_k_X10_beating, fun _ h => absurd h List.not_mem_nil⟩⟩⟩⟩⟩⟩⟩⟩⟩⟩⟩⟩⟩⟩⟩⟩⟩⟩⟩⟩⟩⟩⟩⟩⟩⟩⟩⟩
theorem jm_kr_7 : ∀ q ∈ [(jm_p_X10_pacts, 196), (jm_p_X10_could, 197), (jm_p_X10_noItems, 198), (jm_p_X10_isSo, 199), (jm_p_X10_who, 200), (jm_p_X10_fits, 201), (jm_p_X10_absent, 202), (jm_p_X10_drawn, 203), (jm_p_X10_image, 204), (jm_p_X10_restore, 205), (jm_p_X10_kind, 206), (jm_p_X10_isOf, 207), (jm_p_X10_as, 208), (jm_p_X10_begin, 209), (jm_p_X10_lentSize, 210), (jm_p_X10_wiperSize, 211), (jm_p_X10_stamperSize, 212), (jm_p_X10_sizeOf, 213), (jm_p_X10_lentMark, 214), (jm_p_X10_wiperMark, 215), (jm_p_X10_mark, 216), (jm_p_X10_stamperMark, 217), (jm_p_X10_ask, 218), (jm_p_X10_trace, 219), (jm_p_X10_comings, 220), (jm_p_X10_count, 221), (jm_p_X10_status, 222), (jm_p_J6_bitCount_0f7a4, 223)], jm_kq q := List.forall_mem_cons.mpr ⟨jm_k_X10_pacts, List.forall_mem_cons.mpr ⟨jm_k_X10_could, List.forall_mem_cons.mpr ⟨jm_k_X10_noItems, List.forall_mem_cons.mpr ⟨jm_k_X10_isSo, List.forall_mem_cons.mpr ⟨jm_k_X10_who, List.forall_mem_cons.mpr ⟨jm_k_X10_fits, List.forall_mem_cons.mpr ⟨jm_k_X10_absent, List.forall_mem_cons.mpr ⟨jm_k_X10_drawn, List.forall_mem_cons.mpr ⟨jm_k_X10_image, List.forall_mem_cons.mpr ⟨jm_k_X10_restore, List.forall_mem_cons.mpr ⟨jm_k_X10_kind, List.forall_mem_cons.mpr ⟨jm_k_X10_isOf, List.forall_mem_cons.mpr ⟨jm_k_X10_as, List.forall_mem_cons.mpr ⟨jm_k_X10_begin, List.forall_mem_cons.mpr ⟨jm_k_X10_lentSize, List.forall_mem_cons.mpr ⟨jm_k_X10_wiperSize, List.forall_mem_cons.mpr ⟨jm_k_X10_stamperSize, List.forall_mem_cons.mpr ⟨jm_k_X10_sizeOf, List.forall_mem_cons.mpr ⟨jm_k_X10_lentMark, List.forall_mem_cons.mpr ⟨jm_k_X10_wiperMark, List.forall_mem_cons.mpr ⟨jm_k_X10_mark, List.forall_mem_cons.mpr ⟨jm_k_X10_stamperMark, List.forall_mem_cons.mpr ⟨jm_k_X10_ask, List.forall_mem_cons.mpr ⟨jm_k_X10_trace, List.forall_mem_cons.mpr ⟨jm_k_X10_comings, List.forall_mem_cons.mpr ⟨jm_k_X10_count, List.forall_mem_cons.mpr ⟨jm_k_X10_status, List.forall_mem_cons.mpr ⟨jm_k_J6_bitCount_0f7a4, fun _ h => absurd h List.not_mem_nil⟩⟩⟩⟩⟩⟩⟩⟩⟩⟩⟩⟩⟩⟩⟩⟩⟩⟩⟩⟩⟩⟩⟩⟩⟩⟩⟩⟩
def jm_kl2 : List (List jm_E × Nat) := [(jm_p_X0_init, 0), (jm_p_X0_answer, 1), (jm_p_X0_traced, 2), (jm_p_X0_bodyOf, 3), (jm_p_X0_leaveTrace, 4), (jm_p_X0_give, 5), (jm_p_X1_init, 6), (jm_p_X1_takeOver, 7), (jm_p_X1_wipes, 8), (jm_p_X1_isOf, 9), (jm_p_X2_init, 10), (jm_p_X2_cleanOnes, 11), (jm_p_X2_told, 12), (jm_p_X2_seekOrder, 13), (jm_p_X2_tryOrders, 14), (jm_p_X2_seekLaying, 15), (jm_p_X2_tryLayings, 16), (jm_p_X2_keepTried, 17), (jm_p_X2_fewestBeaten, 18), (jm_p_X2_carriedIfBeaten, 19), (jm_p_X2_uniters, 20), (jm_p_X2_bindsTo, 21), (jm_p_X2_culprits, 22), (jm_p_X2_tryAs, 23), (jm_p_X2_fitting, 24), (jm_p_X2_giveTrait, 25), (jm_p_X2_isSoBehind, 26), (jm_p_X2_likelihood, 27)] ++ ([(jm_p_X2_weight, 28), (jm_p_X2_commonDivisor, 29), (jm_p_X2_years, 30), (jm_p_X3_init, 31), (jm_p_X3_isEmpty, 32), (jm_p_X3_size, 33), (jm_p_X3_forget, 34), (jm_p_X3_keep, 35), (jm_p_X3_takeBack, 36), (jm_p_X4_init, 37), (jm_p_X4_clear, 38), (jm_p_X4_takeOver, 39), (jm_p_X4_writeCells, 40), (jm_p_X4_readCells, 41), (jm_p_X4_allComers, 42), (jm_p_X4_receive, 43), (jm_p_X4_swapWithNext, 44), (jm_p_X4_rainOnAll, 45), (jm_p_X4_areAtOne, 46), (jm_p_X4_pactCount, 47), (jm_p_X4_firstPact, 48), (jm_p_X4_lyingInAll, 49), (jm_p_X4_comings, 50), (jm_p_X5_init, 51), (jm_p_X5_lying, 52), (jm_p_X5_master, 53), (jm_p_X5_empty, 54), (jm_p_X5_takeOver, 55)] ++ ([(jm_p_X6_init, 56), (jm_p_X6_isFull, 57), (jm_p_X6_size, 58), (jm_p_X6_append, 59), (jm_p_X6_place, 60), (jm_p_X6_readInto, 61), (jm_p_X6_readLaw, 62), (jm_p_X6_readMats, 63), (jm_p_X6_readComers, 64), (jm_p_X6_readTraits, 65), (jm_p_X6_sortOf, 66), (jm_p_X6_seen, 67), (jm_p_X6_refuse, 68), (jm_p_X6_takeByte, 69), (jm_p_X6_takeNumber, 70), (jm_p_X6_isFigure, 71), (jm_p_X7_init, 72), (jm_p_X7_isMissing, 73), (jm_p_X7_sameLane, 74), (jm_p_X7_reaches, 75), (jm_p_X7_item, 76), (jm_p_X7_make, 77), (jm_p_X7_put, 78), (jm_p_X7_carryOver, 79), (jm_p_X7_remove, 80), (jm_p_X7_present, 81), (jm_p_X8_init, 82), (jm_p_X8_begin, 83)] ++ ([(jm_p_X8_goOver, 84), (jm_p_X8_allGoOver, 85), (jm_p_X8_lyingInAll, 86), (jm_p_X9_init, 87), (jm_p_X9_row, 88), (jm_p_X9_set, 89), (jm_p_X9_copy, 90), (jm_p_X9_drop, 91), (jm_p_X9_feed, 92), (jm_p_X9_hotel, 93), (jm_p_X9_fault, 94), (jm_p_X9_come, 95), (jm_p_X9_beat, 96), (jm_p_X9_change, 97), (jm_p_X9_rain, 98), (jm_p_X9_undo, 99), (jm_p_X9_comer, 100), (jm_p_X9_mat, 101), (jm_p_X9_soil, 102), (jm_p_X9_atOne, 103), (jm_p_X9_leaves, 104), (jm_p_X9_carries, 105), (jm_p_X9_clean, 106), (jm_p_X9_order, 107), (jm_p_X9_laying, 108), (jm_p_X9_beating, 109), (jm_p_X9_pacts, 110), (jm_p_X9_could, 111)] ++ ([(jm_p_X9_who, 112), (jm_p_X9_fits, 113), (jm_p_X9_absent, 114), (jm_p_X9_drawn, 115), (jm_p_X9_image, 116), (jm_p_X9_restore, 117), (jm_p_X9_kind, 118), (jm_p_X9_as, 119), (jm_p_X9_ask, 120), (jm_p_X9_trace, 121), (jm_p_X9_count, 122), (jm_p_X9_status, 123), (jm_p_X9_noRow, 124), (jm_p_X9_noImage, 125), (jm_p_X9_noCarried, 126), (jm_p_X9_neither, 127), (jm_p_X9_noHotel, 128), (jm_p_X9_noComer, 129), (jm_p_X9_noMat, 130), (jm_p_X9_found, 131), (jm_p_X9_unfound, 132), (jm_p_X9_matRowFinding, 133), (jm_p_X10_init, 134), (jm_p_X10_in, 135), (jm_p_X10_has, 136), (jm_p_X10_bits, 137), (jm_p_X10_find, 138), (jm_p_X10_well, 139)] ++ ([(jm_p_X10_isRow, 140), (jm_p_X10_row, 141), (jm_p_X10_narrow, 142), (jm_p_X10_set, 143), (jm_p_X10_isSpan, 144), (jm_p_X10_copy, 145), (jm_p_X10_drop, 146), (jm_p_X10_feed, 147), (jm_p_X10_isLetter, 148), (jm_p_X10_isFigure, 149), (jm_p_X10_refuse, 150), (jm_p_X10_sign, 151), (jm_p_X10_readsNumber, 152), (jm_p_X10_readsLaw, 153), (jm_p_X10_readsMat, 154), (jm_p_X10_kindOfLetter, 155), (jm_p_X10_readsComer, 156), (jm_p_X10_isSort, 157), (jm_p_X10_reads, 158), (jm_p_X10_hotel, 159), (jm_p_X10_fault, 160), (jm_p_X10_copyTown, 161), (jm_p_X10_keepPast, 162), (jm_p_X10_undo, 163), (jm_p_X10_isComer, 164), (jm_p_X10_isMat, 165), (jm_p_X10_liesOn, 166), (jm_p_X10_onAll, 167)] ++ ([(jm_p_X10_leavesOn, 168), (jm_p_X10_comesAt, 169), (jm_p_X10_beatsAt, 170), (jm_p_X10_areAtOne, 171), (jm_p_X10_come, 172), (jm_p_X10_beat, 173), (jm_p_X10_swapPlaces, 174), (jm_p_X10_change, 175), (jm_p_X10_rain, 176), (jm_p_X10_comer, 177), (jm_p_X10_masterOf, 178), (jm_p_X10_mat, 179), (jm_p_X10_soil, 180), (jm_p_X10_atOne, 181), (jm_p_X10_layTried, 182), (jm_p_X10_carriesIf, 183), (jm_p_X10_leaves, 184), (jm_p_X10_carries, 185), (jm_p_X10_clean, 186), (jm_p_X10_layLine, 187), (jm_p_X10_swapLine, 188), (jm_p_X10_takeLine, 189), (jm_p_X10_nextLine, 190), (jm_p_X10_comeAll, 191), (jm_p_X10_order, 192), (jm_p_X10_layMats, 193), (jm_p_X10_laying, 194), (jm_p_X10_beating, 195)] ++ ([(jm_p_X10_pacts, 196), (jm_p_X10_could, 197), (jm_p_X10_noItems, 198), (jm_p_X10_isSo, 199), (jm_p_X10_who, 200), (jm_p_X10_fits, 201), (jm_p_X10_absent, 202), (jm_p_X10_drawn, 203), (jm_p_X10_image, 204), (jm_p_X10_restore, 205), (jm_p_X10_kind, 206), (jm_p_X10_isOf, 207), (jm_p_X10_as, 208), (jm_p_X10_begin, 209), (jm_p_X10_lentSize, 210), (jm_p_X10_wiperSize, 211), (jm_p_X10_stamperSize, 212), (jm_p_X10_sizeOf, 213), (jm_p_X10_lentMark, 214), (jm_p_X10_wiperMark, 215), (jm_p_X10_mark, 216), (jm_p_X10_stamperMark, 217), (jm_p_X10_ask, 218), (jm_p_X10_trace, 219), (jm_p_X10_comings, 220), (jm_p_X10_count, 221), (jm_p_X10_status, 222), (jm_p_J6_bitCount_0f7a4, 223)])))))))
theorem jm_kl2_ok : ∀ q ∈ jm_kl2, jm_kq q := fun x h => (List.mem_append.mp h).elim (jm_kr_0 x) ((fun x h => (List.mem_append.mp h).elim (jm_kr_1 x) ((fun x h => (List.mem_append.mp h).elim (jm_kr_2 x) ((fun x h => (List.mem_append.mp h).elim (jm_kr_3 x) ((fun x h => (List.mem_append.mp h).elim (jm_kr_4 x) ((fun x h => (List.mem_append.mp h).elim (jm_kr_5 x) ((fun x h => (List.mem_append.mp h).elim (jm_kr_6 x) ((jm_kr_7) x)) x)) x)) x)) x)) x)) x)
theorem jm_kall : jm_ckA jm_PP := by
  intro f hf
  have h1 : jm_kl2.map Prod.fst = jm_pp := rfl
  have h2 : jm_kl2.map Prod.snd = List.range 224 := by decide +kernel
  have hl : f < jm_kl2.length := hf
  have h3 : jm_PP f = (jm_kl2[f]).1 := by
    unfold jm_PP
    rw [← h1, List.getD_eq_getElem?_getD, List.getElem?_map, List.getElem?_eq_getElem hl]
    rfl
  have h4 : (jm_kl2[f]).2 = f := by
    have h5 : (jm_kl2.map Prod.snd)[f]? = some f := by rw [h2, List.getElem?_range hf]
    rw [List.getElem?_map, List.getElem?_eq_getElem hl] at h5
    exact Option.some.inj h5
  have h6 := jm_kl2_ok _ (List.getElem_mem hl)
  unfold jm_kq at h6
  rw [h4, ← h3] at h6
  exact h6
end
section
-- ===== end of PART A; then your names; then what follows =====
/-! THE CLAIM OUT OF ONE WALK OF THE LAW'S BODY. Your part is whole_start (and what it stands on); all else here is the same for every law, but numbers. -/
def R_law : String := "MatNationsLaw"
def lw_P (b : Addr) (xs : List Int32) (args : Array Value) (s : State) : Prop := args = #[.ref b] ∧ s.IntsAt b xs ∧ xs.length ≤ 384 ∧ (Jvm.Cond.and given_1 narrow_1).before args s = true
def lw_Q (_ : Array Value) (s : State) (o : Outcome) (t : State) : Prop := o = .returned (some (.int 1)) ∧ Framed s o t [] 600000 7302250
def lw_Z (below : List Frame) (a : Array Value) (s : State) : State → Prop := fun t => ∃ o, t.status = .running ∧ Ended t below o ∧ lw_Q a s o t
/-- the law's own end, with 1 on the stack, nothing written that was there before, its room as the claim has it -/
theorem lw_ret {p : Program} {l : Launch} {e : Env} {s : State} {m : MethodId} {below : List Frame} {meth : Method} {c : Code} {b : Nat} (hx : p.tables.exec = Jvm.exec) (hb : c.code = code) (hr : meth.sig.returnType = ret) (hlocks : meth.locks = false) {pc : Nat} {H : Heap} {ls : Array Slot} (hdg : decode code pc = .ok (.ireturn, 1)) : W p l e room_1 s m #[Value.ref b] below meth c H [] 600000 7302250 (lw_Z below #[Value.ref b] s) (F0 m pc ls [.int 1]) := by
  intro T hT X
  obtain ⟨fs, hret, hrun, hended, hW, hframe⟩ := X.leave (v := some (.int 1)) (hlocks := hlocks) (fun h => by rw [hr] at h; cases h)
  have hmeth' : T.vm.method? m = some meth := X.method'
  refine ⟨T.setFrames fs, ?_, .returned (some (.int 1)), hrun, hended, rfl, ⟨_, rfl⟩, hW, hframe⟩
  jvm_step X.here [X.here.top, hx, hb, hdg, hmeth', hr, ret, narrow_b1]
  (try refine ⟨rfl, ?_⟩); (try refine ⟨rfl, ?_⟩)
  first | (intro acts; rw [hret _ acts rfl rfl rfl]) | rw [hret _ _ rfl rfl rfl]
  exact Steps.refl _
/-- what holds at the law's entry: the machine, the code, the tables' words (any of lw_tbl by 'hts w (by decide +kernel)'), the script of L ints xs at the cell b, what the Statement gives of the start (any of its parts by flat_of_before) -/
def lw_At (p : Program) (s : State) (m : MethodId) (meth : Method) (c : Code) (b L : Nat) (xs : Nat → Int32) : Prop :=
  p.tables.exec = Jvm.exec ∧ c.code = code ∧ meth.sig.returnType = ret ∧ c.maxLocals = 4 ∧ s.vm.findClass R_law = some m.cls ∧ (∀ w ∈ lw_tbl, w.before #[Value.ref b] s = true) ∧ va_X b L xs s s.heap ∧ b < s.heap.size ∧ meth.locks = false ∧ (Jvm.Cond.and given_1 narrow_1).before #[Value.ref b] s = true

def jm_sa : List (List Int) := [[-1, 0, 1, 1, 0, 4], [1, 0, 1, 0], [5, 29, 9, 5], [10, 11, 12, 11, 13, 14], [20, 21, 24, 22, 23, 23]]
/-- the arrays of the start: 0 the script, then the tables of the classes -/
def jm_xt (L : Nat) (f : Int → Int) : jm_X := fun k => match k with
  | 0 => (L, f)
  | k + 1 => ((jm_sa.getD k []).length, fun j => (jm_sa.getD k []).getD j.toNat 0)
theorem jm_sa_r (k : Nat) (j : Int) : jm_r ((jm_sa.getD k []).getD j.toNat 0) := by
  have h : ∀ l ∈ jm_sa, ∀ z ∈ l, jm_r z := by decide
  rw [List.getD_eq_getElem?_getD, List.getD_eq_getElem?_getD]
  cases hk : jm_sa[k]? with
  | none => simp; exact jm_r0
  | some l =>
    rw [Option.getD_some]
    cases hj : l[j.toNat]? with
    | none => simp; exact jm_r0
    | some z => exact h l (List.mem_of_getElem? hk) z (List.mem_of_getElem? hj)
theorem jm_arrT {args : Array Value} {s : State} {ty : FieldType} (h : (Cond.arrayClass ty).before args s = true) : ∃ cA, ArrOfT s cA ty ∧ s.vm.findClass ("[" ++ ty.toString) = some cA := by
  obtain ⟨cA, k, comp, h1, h2, h3⟩ := Cond.arrayClass_spec h
  exact ⟨cA, fun _ _ => ⟨(fun k h => (by cases h)), k, h2, comp, h3⟩, h1⟩
theorem jm_arrO {s : State} {C : String} (h : va_AO C s) : ∃ cA, ArrOfT s cA (.object C) ∧ va_RA s cA (.object C) := by
  obtain ⟨comp, c, k, h1, h2, h3, h4, h5⟩ := Cond.arrayOver_spec h
  exact ⟨c, fun _ _ => ⟨(fun k h => (by cases h)), k, h3, comp, h4⟩, k, comp, h3, h4, h1, h5⟩
theorem jm_w_oM : Cond.arrayOver (.object "MatNations$Mat") ∈ lw_tbl := List.mem_of_getElem? (i := 135) (by decide +kernel)
theorem jm_w_oC : Cond.arrayOver (.object "MatNations$Comer") ∈ lw_tbl := List.mem_of_getElem? (i := 137) (by decide +kernel)
theorem jm_w_oH : Cond.arrayOver (.object "MatNations$House") ∈ lw_tbl := List.mem_of_getElem? (i := 239) (by decide +kernel)
theorem jm_w_nl : ∀ q ∈ jm_nl, jm_nlw q ∈ lw_tbl := fun q hq => jm_hw_in (List.all_eq_true.mp jm_nl_ok q hq) _ List.mem_cons_self
theorem jm_w_s0 : Cond.laysStatic "MatNations$Comer" "PARENTS" "[I" ∈ lw_tbl := List.mem_of_getElem? (i := 835) (by decide +kernel)
theorem jm_w_s1 : Cond.laysStatic "MatNations$Foretold" "FIRST_TRIED" "[I" ∈ lw_tbl := List.mem_of_getElem? (i := 774) (by decide +kernel)
theorem jm_w_s2 : Cond.laysStatic "MatNations$Foretold" "LAST_TRIED" "[I" ∈ lw_tbl := List.mem_of_getElem? (i := 776) (by decide +kernel)
theorem jm_w_s3 : Cond.laysStatic "MatNations$Asks" "SIZE_BODIES" "[I" ∈ lw_tbl := List.mem_of_getElem? (i := 848) (by decide +kernel)
theorem jm_w_s4 : Cond.laysStatic "MatNations$Asks" "MARK_BODIES" "[I" ∈ lw_tbl := List.mem_of_getElem? (i := 850) (by decide +kernel)
theorem jm_w_iComer : Cond.initialized "MatNations$Comer" ∈ lw_tbl := List.mem_of_getElem? (i := 75) (by decide +kernel)
theorem jm_w_iForetold : Cond.initialized "MatNations$Foretold" ∈ lw_tbl := List.mem_of_getElem? (i := 78) (by decide +kernel)
theorem jm_w_iAsks : Cond.initialized "MatNations$Asks" ∈ lw_tbl := List.mem_of_getElem? (i := 79) (by decide +kernel)
set_option maxRecDepth 100000 in
set_option maxHeartbeats 4000000 in
theorem jm_statics {args : Array Value} {s : State} (hts : ∀ w ∈ lw_tbl, w.before args s = true) (hgv : (Jvm.Cond.and given_1 narrow_1).before args s = true) (L : Nat) (f : Int → Int) :
    ∃ t : Nat → Nat, ∀ k q, jm_sf[k]? = some q → va_T .int (t k) (jm_xt L f (k + 1)).1 (fun j => .int (Int32.ofInt ((jm_xt L f (k + 1)).2 j))) (fun q => s.heap.size ≤ q) s s.heap ∧ va_Z q.1 q.2.1 q.2.2 (.ref (t k)) (fun q => s.heap.size ≤ q) s s.heap := by
  have hs := flat_of_before _ hgv
  have hA : ∀ a : Nat, a < s.heap.size → ¬ (fun q => s.heap.size ≤ q) a := fun a h => Nat.not_le.mpr h
  obtain ⟨t0, ht0, hT0⟩ := va_Tof (tm := (.static "MatNations$Comer" "PARENTS" "[I")) (ty := .int) (N := 6) (f := fun j => .int (Int32.ofInt ((jm_xt L f 1).2 j))) (A := fun q => s.heap.size ≤ q) (by decide) (hs (.arrayOf (.static "MatNations$Comer" "PARENTS" "[I") .int) (by decide +kernel)) (va_eqt (hs (.eq (.length (.static "MatNations$Comer" "PARENTS" "[I")) (.int 6)) (by decide +kernel))) (fun j hj => by
    match j, hj with
    | 0, _ => exact va_eqt (hs (.eq (.elem (.static "MatNations$Comer" "PARENTS" "[I") (.int 0)) (.int (-1))) (by decide +kernel))
    | 1, _ => exact va_eqt (hs (.eq (.elem (.static "MatNations$Comer" "PARENTS" "[I") (.int 1)) (.int (0))) (by decide +kernel))
    | 2, _ => exact va_eqt (hs (.eq (.elem (.static "MatNations$Comer" "PARENTS" "[I") (.int 2)) (.int (1))) (by decide +kernel))
    | 3, _ => exact va_eqt (hs (.eq (.elem (.static "MatNations$Comer" "PARENTS" "[I") (.int 3)) (.int (1))) (by decide +kernel))
    | 4, _ => exact va_eqt (hs (.eq (.elem (.static "MatNations$Comer" "PARENTS" "[I") (.int 4)) (.int (0))) (by decide +kernel))
    | 5, _ => exact va_eqt (hs (.eq (.elem (.static "MatNations$Comer" "PARENTS" "[I") (.int 5)) (.int (4))) (by decide +kernel))
    | j + 6, hj => exact absurd hj (by omega)) hA
  have hZ0 := va_Zof (hts _ jm_w_s0) (hts _ jm_w_iComer) ht0 hA
  obtain ⟨t1, ht1, hT1⟩ := va_Tof (tm := (.static "MatNations$Foretold" "FIRST_TRIED" "[I")) (ty := .int) (N := 4) (f := fun j => .int (Int32.ofInt ((jm_xt L f 2).2 j))) (A := fun q => s.heap.size ≤ q) (by decide) (hs (.arrayOf (.static "MatNations$Foretold" "FIRST_TRIED" "[I") .int) (by decide +kernel)) (va_eqt (hs (.eq (.length (.static "MatNations$Foretold" "FIRST_TRIED" "[I")) (.int 4)) (by decide +kernel))) (fun j hj => by
    match j, hj with
    | 0, _ => exact va_eqt (hs (.eq (.elem (.static "MatNations$Foretold" "FIRST_TRIED" "[I") (.int 0)) (.int (1))) (by decide +kernel))
    | 1, _ => exact va_eqt (hs (.eq (.elem (.static "MatNations$Foretold" "FIRST_TRIED" "[I") (.int 1)) (.int (0))) (by decide +kernel))
    | 2, _ => exact va_eqt (hs (.eq (.elem (.static "MatNations$Foretold" "FIRST_TRIED" "[I") (.int 2)) (.int (1))) (by decide +kernel))
    | 3, _ => exact va_eqt (hs (.eq (.elem (.static "MatNations$Foretold" "FIRST_TRIED" "[I") (.int 3)) (.int (0))) (by decide +kernel))
    | j + 4, hj => exact absurd hj (by omega)) hA
  have hZ1 := va_Zof (hts _ jm_w_s1) (hts _ jm_w_iForetold) ht1 hA
  obtain ⟨t2, ht2, hT2⟩ := va_Tof (tm := (.static "MatNations$Foretold" "LAST_TRIED" "[I")) (ty := .int) (N := 4) (f := fun j => .int (Int32.ofInt ((jm_xt L f 3).2 j))) (A := fun q => s.heap.size ≤ q) (by decide) (hs (.arrayOf (.static "MatNations$Foretold" "LAST_TRIED" "[I") .int) (by decide +kernel)) (va_eqt (hs (.eq (.length (.static "MatNations$Foretold" "LAST_TRIED" "[I")) (.int 4)) (by decide +kernel))) (fun j hj => by
    match j, hj with
    | 0, _ => exact va_eqt (hs (.eq (.elem (.static "MatNations$Foretold" "LAST_TRIED" "[I") (.int 0)) (.int (5))) (by decide +kernel))
    | 1, _ => exact va_eqt (hs (.eq (.elem (.static "MatNations$Foretold" "LAST_TRIED" "[I") (.int 1)) (.int (29))) (by decide +kernel))
    | 2, _ => exact va_eqt (hs (.eq (.elem (.static "MatNations$Foretold" "LAST_TRIED" "[I") (.int 2)) (.int (9))) (by decide +kernel))
    | 3, _ => exact va_eqt (hs (.eq (.elem (.static "MatNations$Foretold" "LAST_TRIED" "[I") (.int 3)) (.int (5))) (by decide +kernel))
    | j + 4, hj => exact absurd hj (by omega)) hA
  have hZ2 := va_Zof (hts _ jm_w_s2) (hts _ jm_w_iForetold) ht2 hA
  obtain ⟨t3, ht3, hT3⟩ := va_Tof (tm := (.static "MatNations$Asks" "SIZE_BODIES" "[I")) (ty := .int) (N := 6) (f := fun j => .int (Int32.ofInt ((jm_xt L f 4).2 j))) (A := fun q => s.heap.size ≤ q) (by decide) (hs (.arrayOf (.static "MatNations$Asks" "SIZE_BODIES" "[I") .int) (by decide +kernel)) (va_eqt (hs (.eq (.length (.static "MatNations$Asks" "SIZE_BODIES" "[I")) (.int 6)) (by decide +kernel))) (fun j hj => by
    match j, hj with
    | 0, _ => exact va_eqt (hs (.eq (.elem (.static "MatNations$Asks" "SIZE_BODIES" "[I") (.int 0)) (.int (10))) (by decide +kernel))
    | 1, _ => exact va_eqt (hs (.eq (.elem (.static "MatNations$Asks" "SIZE_BODIES" "[I") (.int 1)) (.int (11))) (by decide +kernel))
    | 2, _ => exact va_eqt (hs (.eq (.elem (.static "MatNations$Asks" "SIZE_BODIES" "[I") (.int 2)) (.int (12))) (by decide +kernel))
    | 3, _ => exact va_eqt (hs (.eq (.elem (.static "MatNations$Asks" "SIZE_BODIES" "[I") (.int 3)) (.int (11))) (by decide +kernel))
    | 4, _ => exact va_eqt (hs (.eq (.elem (.static "MatNations$Asks" "SIZE_BODIES" "[I") (.int 4)) (.int (13))) (by decide +kernel))
    | 5, _ => exact va_eqt (hs (.eq (.elem (.static "MatNations$Asks" "SIZE_BODIES" "[I") (.int 5)) (.int (14))) (by decide +kernel))
    | j + 6, hj => exact absurd hj (by omega)) hA
  have hZ3 := va_Zof (hts _ jm_w_s3) (hts _ jm_w_iAsks) ht3 hA
  obtain ⟨t4, ht4, hT4⟩ := va_Tof (tm := (.static "MatNations$Asks" "MARK_BODIES" "[I")) (ty := .int) (N := 6) (f := fun j => .int (Int32.ofInt ((jm_xt L f 5).2 j))) (A := fun q => s.heap.size ≤ q) (by decide) (hs (.arrayOf (.static "MatNations$Asks" "MARK_BODIES" "[I") .int) (by decide +kernel)) (va_eqt (hs (.eq (.length (.static "MatNations$Asks" "MARK_BODIES" "[I")) (.int 6)) (by decide +kernel))) (fun j hj => by
    match j, hj with
    | 0, _ => exact va_eqt (hs (.eq (.elem (.static "MatNations$Asks" "MARK_BODIES" "[I") (.int 0)) (.int (20))) (by decide +kernel))
    | 1, _ => exact va_eqt (hs (.eq (.elem (.static "MatNations$Asks" "MARK_BODIES" "[I") (.int 1)) (.int (21))) (by decide +kernel))
    | 2, _ => exact va_eqt (hs (.eq (.elem (.static "MatNations$Asks" "MARK_BODIES" "[I") (.int 2)) (.int (24))) (by decide +kernel))
    | 3, _ => exact va_eqt (hs (.eq (.elem (.static "MatNations$Asks" "MARK_BODIES" "[I") (.int 3)) (.int (22))) (by decide +kernel))
    | 4, _ => exact va_eqt (hs (.eq (.elem (.static "MatNations$Asks" "MARK_BODIES" "[I") (.int 4)) (.int (23))) (by decide +kernel))
    | 5, _ => exact va_eqt (hs (.eq (.elem (.static "MatNations$Asks" "MARK_BODIES" "[I") (.int 5)) (.int (23))) (by decide +kernel))
    | j + 6, hj => exact absurd hj (by omega)) hA
  have hZ4 := va_Zof (hts _ jm_w_s4) (hts _ jm_w_iAsks) ht4 hA
  refine ⟨fun k => match k with | 0 => t0 | 1 => t1 | 2 => t2 | 3 => t3 | _ => t4, fun k q hq => ?_⟩
  match k, hq with
  | 0, hq => cases hq; exact ⟨hT0, hZ0⟩
  | 1, hq => cases hq; exact ⟨hT1, hZ1⟩
  | 2, hq => cases hq; exact ⟨hT2, hZ2⟩
  | 3, hq => cases hq; exact ⟨hT3, hZ3⟩
  | 4, hq => cases hq; exact ⟨hT4, hZ4⟩
  | k + 5, hq => exact absurd hq (by simp [jm_sf])
set_option maxRecDepth 100000 in
set_option maxHeartbeats 4000000 in
/-- THE LAW out of a run of the small machine -/
theorem jm_whole {p : Program} {e : Env} {s : State} {m : MethodId} {below : List Frame} {meth : Method} {c : Code} (l : Launch) {b L : Nat} {xs : Nat → Int32} (hL : L ≤ 384) (C0 : lw_At p s m meth c b L xs)
    (hwp : ∀ f : Int → Int, (∀ j, jm_r (f j)) → jm_WP (jm_xt L f) (jm_CW (jm_xt L f) jm_PP 200) (104, 4049) jm_p_L_law (fun v _ => v = [.inl 1]) 0 [some (.inr (.inr (-2))), none, none, none] [] ([], fun _ _ => 0)) :
    W p l e room_1 s m #[Value.ref b] below meth c s.heap [] 0 0 (lw_Z below #[Value.ref b] s) (entryFrame m ([Value.ref b] : List Value).toArray 4) := by
  obtain ⟨hx, hb, hr, hml, hown, hts, hX, hbl, hlocks, hgv⟩ := C0
  obtain ⟨tt, htt⟩ := jm_statics hts hgv L (fun j => (xs j.toNat).toInt)
  obtain ⟨c0, iS0, hKn0⟩ := u_known (C := RX0) (T := TX0) (N := 2) (n := 2) hts (fun w h => jm_hw_in jm_uw_0 w h) (hts (.instantiable RX0 2) (jm_hw_in jm_ui_0 _ List.mem_cons_self))
  obtain ⟨c1, iS1, hKn1⟩ := u_known (C := RX1) (T := TX1) (N := 5) (n := 5) hts (fun w h => jm_hw_in jm_uw_1 w h) (hts (.instantiable RX1 5) (jm_hw_in jm_ui_1 _ List.mem_cons_self))
  obtain ⟨c2, iS2, hKn2⟩ := u_known (C := RX2) (T := TX2) (N := 6) (n := 6) hts (fun w h => jm_hw_in jm_uw_2 w h) (hts (.instantiable RX2 6) (jm_hw_in jm_ui_2 _ List.mem_cons_self))
  obtain ⟨c3, iS3, hKn3⟩ := u_known (C := RX3) (T := TX3) (N := 3) (n := 3) hts (fun w h => jm_hw_in jm_uw_3 w h) (hts (.instantiable RX3 3) (jm_hw_in jm_ui_3 _ List.mem_cons_self))
  obtain ⟨c4, iS4, hKn4⟩ := u_known (C := RX4) (T := TX4) (N := 6) (n := 6) hts (fun w h => jm_hw_in jm_uw_4 w h) (hts (.instantiable RX4 6) (jm_hw_in jm_ui_4 _ List.mem_cons_self))
  obtain ⟨c5, iS5, hKn5⟩ := u_known (C := RX5) (T := TX5) (N := 2) (n := 2) hts (fun w h => jm_hw_in jm_uw_5 w h) (hts (.instantiable RX5 2) (jm_hw_in jm_ui_5 _ List.mem_cons_self))
  obtain ⟨c6, iS6, hKn6⟩ := u_known (C := RX6) (T := TX6) (N := 4) (n := 4) hts (fun w h => jm_hw_in jm_uw_6 w h) (hts (.instantiable RX6 4) (jm_hw_in jm_ui_6 _ List.mem_cons_self))
  obtain ⟨c7, iS7, hKn7⟩ := u_known (C := RX7) (T := TX7) (N := 3) (n := 3) hts (fun w h => jm_hw_in jm_uw_7 w h) (hts (.instantiable RX7 3) (jm_hw_in jm_ui_7 _ List.mem_cons_self))
  obtain ⟨c8, iS8, hKn8⟩ := u_known (C := RX8) (T := TX8) (N := 3) (n := 3) hts (fun w h => jm_hw_in jm_uw_8 w h) (hts (.instantiable RX8 3) (jm_hw_in jm_ui_8 _ List.mem_cons_self))
  obtain ⟨c9, iS9, hKn9⟩ := u_known (C := RX9) (T := TX9) (N := 12) (n := 12) hts (fun w h => jm_hw_in jm_uw_9 w h) (hts (.instantiable RX9 12) (jm_hw_in jm_ui_9 _ List.mem_cons_self))
  obtain ⟨c10, iS10, hKn10⟩ := u_known (C := RX10) (T := TX10) (N := 18) (n := 18) hts (fun w h => jm_hw_in jm_uw_10 w h) (hts (.instantiable RX10 18) (jm_hw_in jm_ui_10 _ List.mem_cons_self))
  obtain ⟨dC, dI, hKc⟩ : ∃ (dC : Nat → ClassId) (dI : Nat → Nat → Nat), ∀ (k : Nat) (q : vw_C), vwCl[k]? = some q → u_Kn s q.1 q.2.1 q.2.2 (dC k) (dI k) := by
    refine ⟨fun k => match k with | 0 => c0 | 1 => c1 | 2 => c2 | 3 => c3 | 4 => c4 | 5 => c5 | 6 => c6 | 7 => c7 | 8 => c8 | 9 => c9 | _ => c10, fun k => match k with | 0 => iS0 | 1 => iS1 | 2 => iS2 | 3 => iS3 | 4 => iS4 | 5 => iS5 | 6 => iS6 | 7 => iS7 | 8 => iS8 | 9 => iS9 | _ => iS10, ?_⟩
    intro k q hq
    match k, hq with
    | 0, hq => cases hq; exact hKn0
    | 1, hq => cases hq; exact hKn1
    | 2, hq => cases hq; exact hKn2
    | 3, hq => cases hq; exact hKn3
    | 4, hq => cases hq; exact hKn4
    | 5, hq => cases hq; exact hKn5
    | 6, hq => cases hq; exact hKn6
    | 7, hq => cases hq; exact hKn7
    | 8, hq => cases hq; exact hKn8
    | 9, hq => cases hq; exact hKn9
    | 10, hq => cases hq; exact hKn10
    | k + 11, hq => simp [vwCl] at hq
  obtain ⟨a0, hA0, hN0⟩ := jm_arrT (hts _ jm_w_ac)
  obtain ⟨a1, hA1, hN1⟩ := jm_arrT (hts _ jm_w_az)
  have hoM : va_AO "MatNations$Mat" s := va_AO.of (hts _ jm_w_oM)
  have hoC : va_AO "MatNations$Comer" s := va_AO.of (hts _ jm_w_oC)
  have hoH : va_AO "MatNations$House" s := va_AO.of (hts _ jm_w_oH)
  obtain ⟨a2, hA2, hN2⟩ := jm_arrO hoM
  obtain ⟨a3, hA3, hN3⟩ := jm_arrO hoC
  obtain ⟨a4, hA4, hN4⟩ := jm_arrO hoH
  obtain ⟨aC, rfl, rfl, rfl, rfl, rfl⟩ : ∃ aC : Nat → ClassId, aC 0 = a0 ∧ aC 1 = a1 ∧ aC 2 = a2 ∧ aC 3 = a3 ∧ aC 4 = a4 := ⟨fun k => match k with | 0 => a0 | 1 => a1 | 2 => a2 | 3 => a3 | _ => a4, rfl, rfl, rfl, rfl, rfl⟩
  have hK : va_K (dC, dI) vwCl (jm_tys aC) s := by
    refine ⟨hKc, fun k q h => ?_⟩
    match k, h with
    | 0, h => cases h; exact ⟨hA0, hN0⟩
    | 1, h => cases h; exact ⟨hA1, hN1⟩
    | 2, h => cases h; exact ⟨hA2, hN2⟩
    | 3, h => cases h; exact ⟨hA3, hN3⟩
    | 4, h => cases h; exact ⟨hA4, hN4⟩
    | k + 5, h => simp [jm_tys] at h
  have hE : jm_Env (dC, dI) aC s := ⟨fun w hw hg a => word_at (State.WarmedH.refl s) (good_of_word hg) (hts w hw), fun q hq => va_Nw.of rfl (hts _ (jm_w_nl q hq)), ⟨hoM, hoC, hoH⟩, hK⟩
  have hXt : jm_Ext s.heap.size (fun k => match k with | 0 => b | k + 1 => tt k) (jm_xt L (fun j => (xs j.toNat).toInt)) s s.heap := by
    refine ⟨fun k hk => ?_, fun k q hq => (htt k q hq).2⟩
    match k, hk with
    | 0, _ =>
      obtain ⟨scr, z1, z2, z3, z4, z5⟩ := hX
      refine ⟨⟨scr, z1, z2, z3, Nat.le_of_eq z4.symm, by rw [z4]; rfl, fun j hj => ?_, Nat.not_le.mpr hbl⟩, by show L < 2147483648; omega, fun j => jm_rI _⟩
      have h5 := z5 j hj
      rw [h5]
      show some (Value.int (xs j)) = some (.int (Int32.ofInt (xs ((j : Int)).toNat).toInt))
      rw [Int.toNat_natCast, Int32.ofInt_toInt]
    | k + 1, hk =>
      have hk5 : k < jm_sf.length := by show k < 5; omega
      have hlen : ∀ l ∈ jm_sa, l.length < 2147483648 := by decide
      refine ⟨(htt k _ (List.getElem?_eq_getElem hk5)).1, ?_, fun j => jm_sa_r k j⟩
      show (jm_sa.getD k []).length < 2147483648
      rw [List.getD_eq_getElem?_getD]
      cases hq : jm_sa[k]? with
      | none => decide
      | some l => exact hlen l (List.mem_of_getElem? hq)
  have hC : jm_Cx p room_1 s m meth c (dC, dI) aC s.heap.size (fun k => match k with | 0 => b | k + 1 => tt k) (jm_xt L (fun j => (xs j.toNat).toInt)) 224 200 (104, 4049) 0 0 :=
    ⟨hx, hb, hml, hown, hE, hXt, rfl, fun h => absurd h (by decide), by decide, by decide, by decide, by decide⟩
  obtain ⟨k1, k2, k3⟩ := jm_k_law
  have key := hwp (fun j => (xs j.toNat).toInt) (fun j => jm_rI _) (jm_It p l e room_1 s m #[Value.ref b] below meth c (dC, dI) aC s.heap.size (fun k => match k with | 0 => b | k + 1 => tt k) jm_p_L_law 224 (104, 4049) 0 0 (lw_Z below #[Value.ref b] s))
    (jm_closed hC k1 k2 (fun f vs h Qk hf hc => jm_sound jm_kall l (dC, dI) aC s.heap.size _ _ 200 f vs h Qk hf hc) ?_ ?_)
  · obtain ⟨e0, g1, g2⟩ := jm_go_spec k3
    have hent := jm_entry (ba := s.heap.size) (ex := (fun k => match k with | 0 => b | k + 1 => tt k)) (vs := [.inr (.inr (-2))]) (nL := 4) (by decide) (fun v hv => by rw [List.mem_singleton.mp hv]; exact trivial)
    have k4 := key e0 g1 s.heap [] 0 0 _ ⟨fun k q h => by simp [jm_ws] at h, fun _ _ => jm_r0, va_S.rf, rfl, rfl, by decide, by decide⟩ hent (fun v hv => absurd hv List.not_mem_nil)
    rw [g2] at k4
    rw [lg_entry_eq]
    exact k4
  · intro z h' H locs cells slots ls pc hdc hz hty hq hS
    have hz1 : z = 1 := by
      have := List.cons.inj hq
      exact Sum.inl.inj this.1
    subst hz1
    refine va_forget (fun q hq => hS.2.2.1.2.2 q hq) ?_
    have h4 := hS.2.2.2.1
    have h5 := hS.2.2.2.2.1
    have h6 := hS.2.2.2.2.2.1
    have h7 := hS.2.2.2.2.2.2
    dsimp only at h6 h7
    refine W.widen (k := 600000) (n := 7302250) (by omega) (by omega) ?_
    exact lw_ret hx hb hr hlocks hdc
  · intro h' H locs cells slots ls pc hdc hty
    exact absurd hty (by decide)
end
section
/-! the cells as they are behind the two constructors; walks over them, an instruction a row -/
def jm_SH : List jm_S := [(19, 12, [1, 5, 7, 24, 41, 42, 43, 45, 49, 58, -1, -1]), (17, 3, [2, 3, 4]), (0, 320, []), (0, 8, []), (0, 8, []), (16, 4, [6, -1, -1, -1]), (0, 100, []), (14, 6, [-1, -1, -1, -1, 8, 9]), (2, 4, []), (3, 6, []), (15, 2, [-1, 11]), (0, 6, []), (15, 2, [-1, 13]), (0, 6, []), (15, 2, [-1, 15]), (0, 6, []), (15, 2, [-1, 17]), (0, 6, []), (11, 5, [-1, -1, -1, -1, -1]), (11, 5, [-1, -1, -1, -1, -1]), (11, 5, [-1, -1, -1, -1, -1]), (11, 5, [-1, -1, -1, -1, -1]), (11, 5, [-1, -1, -1, -1, -1]), (11, 5, [-1, -1, -1, -1, -1]), (14, 6, [-1, -1, -1, -1, 25, 26]), (2, 4, []), (3, 6, []), (15, 2, [-1, 28]), (0, 6, []), (15, 2, [-1, 30]), (0, 6, []), (15, 2, [-1, 32]), (0, 6, []), (15, 2, [-1, 34]), (0, 6, []), (11, 5, [-1, -1, -1, -1, -1]), (11, 5, [-1, -1, -1, -1, -1]), (11, 5, [-1, -1, -1, -1, -1]), (11, 5, [-1, -1, -1, -1, -1]), (11, 5, [-1, -1, -1, -1, -1]), (11, 5, [-1, -1, -1, -1, -1]), (4, 2, []), (1, 2, []), (13, 3, [44, -1, -1]), (0, 960, []), (18, 3, [46, 47, 48]), (0, 4, []), (0, 4, []), (0, 4, []), (12, 6, [50, 54, 55, 56, 57, -1]), (18, 3, [51, 52, 53]), (0, 4, []), (0, 4, []), (0, 4, []), (11, 5, [-1, -1, -1, -1, -1]), (0, 24, []), (0, 6, []), (0, 6, []), (10, 2, [59, -1]), (0, 16, []), (14, 6, [-1, -1, -1, -1, 61, 62]), (2, 4, []), (3, 6, []), (15, 2, [-1, 64]), (0, 6, []), (15, 2, [-1, 66]), (0, 6, []), (15, 2, [-1, 68]), (0, 6, []), (15, 2, [-1, 70]), (0, 6, []), (11, 5, [-1, -1, -1, -1, -1]), (11, 5, [-1, -1, -1, -1, -1]), (11, 5, [-1, -1, -1, -1, -1]), (11, 5, [-1, -1, -1, -1, -1]), (11, 5, [-1, -1, -1, -1, -1]), (11, 5, [-1, -1, -1, -1, -1]), (14, 6, [-1, -1, -1, -1, 78, 79]), (2, 4, []), (3, 6, []), (15, 2, [-1, 81]), (0, 6, []), (15, 2, [-1, 83]), (0, 6, []), (15, 2, [-1, 85]), (0, 6, []), (15, 2, [-1, 87]), (0, 6, []), (11, 5, [-1, -1, -1, -1, -1]), (11, 5, [-1, -1, -1, -1, -1]), (11, 5, [-1, -1, -1, -1, -1]), (11, 5, [-1, -1, -1, -1, -1]), (11, 5, [-1, -1, -1, -1, -1]), (11, 5, [-1, -1, -1, -1, -1]), (20, 18, [95, -1, -1, 96, 97, 98, 99, 100, -1, -1, -1, 101, -1, -1, -1, -1, 102, 103]), (0, 1736, []), (1, 2, []), (0, 8, []), (0, 8, []), (0, 320, []), (0, 100, []), (0, 16, []), (0, 6, []), (0, 6, [])]
abbrev jv_P : Type := List jm_V → jm_M → Prop
def jV (X : jm_X) (d : Nat) (P : List jm_E) (Q : jv_P) (i : Nat) (L : jm_L) (st : List jm_V) (μ : jm_M) : Prop := jm_WP X (jm_CW X jm_PP d) (104, 4049) P (fun v h => h.1 = jm_SH ∧ Q v h.2) i L st (jm_SH, μ)
def cV (X : jm_X) (d f : Nat) (vs : List jm_V) (μ : jm_M) (Q : jv_P) : Prop := jm_CW X jm_PP d f vs (jm_SH, μ) (fun v h => h.1 = jm_SH ∧ Q v h.2)
section JVR
variable {X : jm_X} {d : Nat} {P : List jm_E} {Q : jv_P} {i j : Nat} {L : jm_L} {st r : List jm_V} {μ : jm_M} {pc len : Nat} {res : List Int}
theorem jv_len : jm_SH.length = 104 := rfl
theorem jv_tot : jm_tot jm_SH = 4049 := by decide
theorem jv_enter {f : Nat} {vs : List jm_V} {n : Nat} (P : List jm_E) (L : jm_L) (hmc : jm_mc f = 0) (hms : jm_ms f = 0) (hma : jm_ma f = n) (hl : (jm_loc vs).length ≤ n) (hP : jm_PP f = P) (hL : jm_loc vs ++ List.replicate (n - (jm_loc vs).length) none = L) (k : jV X d P Q 0 L [] μ) : cV X (d + 1) f vs μ Q := by
  refine ⟨by rw [hma]; exact hl, ?_⟩
  rw [hma, hL, hP, hmc, hms]
  show jm_WP X (jm_CW X jm_PP d) (jm_SH.length + 0, jm_tot jm_SH + 0) P _ 0 L [] (jm_SH, μ)
  rw [jv_tot]
  refine jm_WP_Q (fun v h z => ?_) k
  refine ⟨⟨?_, ?_⟩, z⟩
  · rw [hmc, z.1]; rfl
  · rw [hms, z.1]; rfl
theorem jv_mono {f : Nat} {vs : List jm_V} {Q Q' : jv_P} (h : cV X d f vs μ Q) (k : ∀ v μ', Q v μ' → Q' v μ') : cV X d f vs μ Q' := jm_CW_mono X jm_PP d _ _ _ _ _ (fun v h q => ⟨q.1, k v h.2 q.2⟩) h
theorem jv_iconst {n : Int} (he : P[i]? = some (pc, .iconst n, len, res)) (hj : i + 1 = j) (k : jV X d P Q j L (.inl n :: st) μ) : jV X d P Q i L (st) μ := jm_fold (jm_CW_mono X jm_PP d) he (by subst hj; exact k)
theorem jv_bipush {n : Int} (he : P[i]? = some (pc, .bipush n, len, res)) (hj : i + 1 = j) (k : jV X d P Q j L (.inl n :: st) μ) : jV X d P Q i L (st) μ := jm_fold (jm_CW_mono X jm_PP d) he (by subst hj; exact k)
theorem jv_sipush {n : Int} (he : P[i]? = some (pc, .sipush n, len, res)) (hj : i + 1 = j) (k : jV X d P Q j L (.inl n :: st) μ) : jV X d P Q i L (st) μ := jm_fold (jm_CW_mono X jm_PP d) he (by subst hj; exact k)
theorem jv_ldc {x : Nat} {v : Int} (he : P[i]? = some (pc, .ldc x, len, [v])) (hj : i + 1 = j) (k : jV X d P Q j L (.inl v :: st) μ) : jV X d P Q i L (st) μ := jm_fold (jm_CW_mono X jm_PP d) he (by subst hj; exact k)
theorem jv_ldc_w {x : Nat} {v : Int} (he : P[i]? = some (pc, .ldc_w x, len, [v])) (hj : i + 1 = j) (k : jV X d P Q j L (.inl v :: st) μ) : jV X d P Q i L (st) μ := jm_fold (jm_CW_mono X jm_PP d) he (by subst hj; exact k)
theorem jv_ldc2_w {x : Nat} {v : Int} (he : P[i]? = some (pc, .ldc2_w x, len, [v])) (hj : i + 1 = j) (k : jV X d P Q j L (.inr (.inl v) :: st) μ) : jV X d P Q i L (st) μ := jm_fold (jm_CW_mono X jm_PP d) he (by subst hj; exact k)
theorem jv_lconst {n : Fin 2} (he : P[i]? = some (pc, .lconst n, len, res)) (hj : i + 1 = j) (k : jV X d P Q j L (.inr (.inl (n.val : Int)) :: st) μ) : jV X d P Q i L (st) μ := jm_fold (jm_CW_mono X jm_PP d) he (by subst hj; exact k)
theorem jv_iload {k0 : Nat} {z : Int} (he : P[i]? = some (pc, .iload k0, len, res)) (hj : i + 1 = j) (hl : L[k0]? = some (some (.inl z))) (k : jV X d P Q j L (.inl z :: st) μ) : jV X d P Q i L st μ := jm_fold (jm_CW_mono X jm_PP d) he (by subst hj; simp only [jm_sem, hl]; exact k)
theorem jv_iload_n {k0 : Fin 4} {z : Int} (he : P[i]? = some (pc, .iload_n k0, len, res)) (hj : i + 1 = j) (hl : L[k0.val]? = some (some (.inl z))) (k : jV X d P Q j L (.inl z :: st) μ) : jV X d P Q i L st μ := jm_fold (jm_CW_mono X jm_PP d) he (by subst hj; simp only [jm_sem, hl]; exact k)
theorem jv_lload {k0 : Nat} {z : Int} (he : P[i]? = some (pc, .lload k0, len, res)) (hj : i + 1 = j) (hl : L[k0]? = some (some (.inr (.inl z)))) (k : jV X d P Q j L (.inr (.inl z) :: st) μ) : jV X d P Q i L st μ := jm_fold (jm_CW_mono X jm_PP d) he (by subst hj; simp only [jm_sem, hl]; exact k)
theorem jv_lload_n {k0 : Fin 4} {z : Int} (he : P[i]? = some (pc, .lload_n k0, len, res)) (hj : i + 1 = j) (hl : L[k0.val]? = some (some (.inr (.inl z)))) (k : jV X d P Q j L (.inr (.inl z) :: st) μ) : jV X d P Q i L st μ := jm_fold (jm_CW_mono X jm_PP d) he (by subst hj; simp only [jm_sem, hl]; exact k)
theorem jv_aload {k0 : Nat} {z : Int} (he : P[i]? = some (pc, .aload k0, len, res)) (hj : i + 1 = j) (hl : L[k0]? = some (some (.inr (.inr z)))) (hc : ¬ z = -1) (k : jV X d P Q j L (.inr (.inr z) :: st) μ) : jV X d P Q i L st μ := jm_fold (jm_CW_mono X jm_PP d) he (by subst hj; simp only [jm_sem, hl]; exact And.intro hc k)
theorem jv_aload_n {k0 : Fin 4} {z : Int} (he : P[i]? = some (pc, .aload_n k0, len, res)) (hj : i + 1 = j) (hl : L[k0.val]? = some (some (.inr (.inr z)))) (hc : ¬ z = -1) (k : jV X d P Q j L (.inr (.inr z) :: st) μ) : jV X d P Q i L st μ := jm_fold (jm_CW_mono X jm_PP d) he (by subst hj; simp only [jm_sem, hl]; exact And.intro hc k)
theorem jv_istore {k0 : Nat} {z : Int} (L2 : Int → jm_L) (he : P[i]? = some (pc, .istore k0, len, res)) (hj : i + 1 = j) (hL : ∀ x, jm_set L k0 (.inl x) = L2 x) (k : ∀ x : Int, x = z → jV X d P Q j (L2 x) r μ) : jV X d P Q i L (.inl z :: r) μ := jm_fold (jm_CW_mono X jm_PP d) he (by subst hj; have q := k z rfl; rw [← hL z] at q; exact q)
theorem jv_istore_n {k0 : Fin 4} {z : Int} (L2 : Int → jm_L) (he : P[i]? = some (pc, .istore_n k0, len, res)) (hj : i + 1 = j) (hL : ∀ x, jm_set L k0.val (.inl x) = L2 x) (k : ∀ x : Int, x = z → jV X d P Q j (L2 x) r μ) : jV X d P Q i L (.inl z :: r) μ := jm_fold (jm_CW_mono X jm_PP d) he (by subst hj; have q := k z rfl; rw [← hL z] at q; exact q)
theorem jv_lstore {k0 : Nat} {z : Int} (L2 : Int → jm_L) (he : P[i]? = some (pc, .lstore k0, len, res)) (hj : i + 1 = j) (hL : ∀ x, jm_set2 L k0 (.inr (.inl x)) = L2 x) (k : ∀ x : Int, x = z → jV X d P Q j (L2 x) r μ) : jV X d P Q i L (.inr (.inl z) :: r) μ := jm_fold (jm_CW_mono X jm_PP d) he (by subst hj; have q := k z rfl; rw [← hL z] at q; exact q)
theorem jv_lstore_n {k0 : Fin 4} {z : Int} (L2 : Int → jm_L) (he : P[i]? = some (pc, .lstore_n k0, len, res)) (hj : i + 1 = j) (hL : ∀ x, jm_set2 L k0.val (.inr (.inl x)) = L2 x) (k : ∀ x : Int, x = z → jV X d P Q j (L2 x) r μ) : jV X d P Q i L (.inr (.inl z) :: r) μ := jm_fold (jm_CW_mono X jm_PP d) he (by subst hj; have q := k z rfl; rw [← hL z] at q; exact q)
theorem jv_astore {k0 : Nat} {z : Int} {L2 : jm_L} (he : P[i]? = some (pc, .astore k0, len, res)) (hj : i + 1 = j) (hc : ¬ z = -1) (hL : jm_set L k0 (.inr (.inr z)) = L2) (k : jV X d P Q j L2 (r) μ) : jV X d P Q i L (.inr (.inr z) :: r) μ := jm_fold (jm_CW_mono X jm_PP d) he (by subst hj; subst hL; exact And.intro hc k)
theorem jv_astore_n {k0 : Fin 4} {z : Int} {L2 : jm_L} (he : P[i]? = some (pc, .astore_n k0, len, res)) (hj : i + 1 = j) (hc : ¬ z = -1) (hL : jm_set L k0.val (.inr (.inr z)) = L2) (k : jV X d P Q j L2 (r) μ) : jV X d P Q i L (.inr (.inr z) :: r) μ := jm_fold (jm_CW_mono X jm_PP d) he (by subst hj; subst hL; exact And.intro hc k)
theorem jv_iinc {k0 : Nat} {n z : Int} (L2 : Int → jm_L) (he : P[i]? = some (pc, .iinc k0 n, len, res)) (hj : i + 1 = j) (hl : L[k0]? = some (some (.inl z))) (hc : jm_r (z + n)) (hL : ∀ x, jm_set L k0 (.inl x) = L2 x) (k : ∀ x : Int, x = z + n → jV X d P Q j (L2 x) st μ) : jV X d P Q i L st μ := jm_fold (jm_CW_mono X jm_PP d) he (by subst hj; have q := k (z + n) rfl; rw [← hL (z + n)] at q; simp only [jm_sem, hl]; exact And.intro hc q)
theorem jv_iadd {a b : Int} (he : P[i]? = some (pc, .iadd, len, res)) (hj : i + 1 = j) (hc : jm_r (a + b)) (k : jV X d P Q j L (.inl (a + b) :: r) μ) : jV X d P Q i L (.inl b :: .inl a :: r) μ := jm_fold (jm_CW_mono X jm_PP d) he (by subst hj; exact And.intro hc k)
theorem jv_isub {a b : Int} (he : P[i]? = some (pc, .isub, len, res)) (hj : i + 1 = j) (hc : jm_r (a - b)) (k : jV X d P Q j L (.inl (a - b) :: r) μ) : jV X d P Q i L (.inl b :: .inl a :: r) μ := jm_fold (jm_CW_mono X jm_PP d) he (by subst hj; exact And.intro hc k)
theorem jv_imul {a b : Int} (he : P[i]? = some (pc, .imul, len, res)) (hj : i + 1 = j) (hc : jm_r (a * b)) (k : jV X d P Q j L (.inl (a * b) :: r) μ) : jV X d P Q i L (.inl b :: .inl a :: r) μ := jm_fold (jm_CW_mono X jm_PP d) he (by subst hj; exact And.intro hc k)
theorem jv_idiv {a b : Int} (he : P[i]? = some (pc, .idiv, len, res)) (hj : i + 1 = j) (hc : 0 ≤ a ∧ 0 < b) (k : jV X d P Q j L (.inl (a / b) :: r) μ) : jV X d P Q i L (.inl b :: .inl a :: r) μ := jm_fold (jm_CW_mono X jm_PP d) he (by subst hj; exact And.intro hc k)
theorem jv_irem {a b : Int} (he : P[i]? = some (pc, .irem, len, res)) (hj : i + 1 = j) (hc : 0 ≤ a ∧ 0 < b) (k : jV X d P Q j L (.inl (a % b) :: r) μ) : jV X d P Q i L (.inl b :: .inl a :: r) μ := jm_fold (jm_CW_mono X jm_PP d) he (by subst hj; exact And.intro hc k)
theorem jv_iand {a b : Int} (he : P[i]? = some (pc, .iand, len, res)) (hj : i + 1 = j) (k : jV X d P Q j L (.inl (jm_and a b) :: r) μ) : jV X d P Q i L (.inl b :: .inl a :: r) μ := jm_fold (jm_CW_mono X jm_PP d) he (by subst hj; exact k)
theorem jv_ior {a b : Int} (he : P[i]? = some (pc, .ior, len, res)) (hj : i + 1 = j) (k : jV X d P Q j L (.inl (jm_or a b) :: r) μ) : jV X d P Q i L (.inl b :: .inl a :: r) μ := jm_fold (jm_CW_mono X jm_PP d) he (by subst hj; exact k)
theorem jv_ixor {a b : Int} (he : P[i]? = some (pc, .ixor, len, res)) (hj : i + 1 = j) (k : jV X d P Q j L (.inl (jm_xor a b) :: r) μ) : jV X d P Q i L (.inl b :: .inl a :: r) μ := jm_fold (jm_CW_mono X jm_PP d) he (by subst hj; exact k)
theorem jv_ishl {a b : Int} (he : P[i]? = some (pc, .ishl, len, res)) (hj : i + 1 = j) (k : jV X d P Q j L (.inl (jm_shl a b) :: r) μ) : jV X d P Q i L (.inl b :: .inl a :: r) μ := jm_fold (jm_CW_mono X jm_PP d) he (by subst hj; exact k)
theorem jv_ishr {a b : Int} (he : P[i]? = some (pc, .ishr, len, res)) (hj : i + 1 = j) (k : jV X d P Q j L (.inl (jm_shr a b) :: r) μ) : jV X d P Q i L (.inl b :: .inl a :: r) μ := jm_fold (jm_CW_mono X jm_PP d) he (by subst hj; exact k)
theorem jv_iushr {a b : Int} (he : P[i]? = some (pc, .iushr, len, res)) (hj : i + 1 = j) (k : jV X d P Q j L (.inl (jm_ushr a b) :: r) μ) : jV X d P Q i L (.inl b :: .inl a :: r) μ := jm_fold (jm_CW_mono X jm_PP d) he (by subst hj; exact k)
theorem jv_ladd {a b : Int} (he : P[i]? = some (pc, .ladd, len, res)) (hj : i + 1 = j) (hc : jm_rl (a + b)) (k : jV X d P Q j L (.inr (.inl (a + b)) :: r) μ) : jV X d P Q i L (.inr (.inl b) :: .inr (.inl a) :: r) μ := jm_fold (jm_CW_mono X jm_PP d) he (by subst hj; exact And.intro hc k)
theorem jv_lmul {a b : Int} (he : P[i]? = some (pc, .lmul, len, res)) (hj : i + 1 = j) (hc : jm_rl (a * b)) (k : jV X d P Q j L (.inr (.inl (a * b)) :: r) μ) : jV X d P Q i L (.inr (.inl b) :: .inr (.inl a) :: r) μ := jm_fold (jm_CW_mono X jm_PP d) he (by subst hj; exact And.intro hc k)
theorem jv_lrem {a b : Int} (he : P[i]? = some (pc, .lrem, len, res)) (hj : i + 1 = j) (hc : 0 ≤ a ∧ 0 < b) (k : jV X d P Q j L (.inr (.inl (a % b)) :: r) μ) : jV X d P Q i L (.inr (.inl b) :: .inr (.inl a) :: r) μ := jm_fold (jm_CW_mono X jm_PP d) he (by subst hj; exact And.intro hc k)
theorem jv_lcmp {a b : Int} (he : P[i]? = some (pc, .lcmp, len, res)) (hj : i + 1 = j) (k : jV X d P Q j L (.inl (if a < b then -1 else if a = b then 0 else 1) :: r) μ) : jV X d P Q i L (.inr (.inl b) :: .inr (.inl a) :: r) μ := jm_fold (jm_CW_mono X jm_PP d) he (by subst hj; exact k)
theorem jv_ineg {a : Int} (he : P[i]? = some (pc, .ineg, len, res)) (hj : i + 1 = j) (hc : jm_r (-a)) (k : jV X d P Q j L (.inl (-a) :: r) μ) : jV X d P Q i L (.inl a :: r) μ := jm_fold (jm_CW_mono X jm_PP d) he (by subst hj; exact And.intro hc k)
theorem jv_i2l {a : Int} (he : P[i]? = some (pc, .i2l, len, res)) (hj : i + 1 = j) (k : jV X d P Q j L (.inr (.inl a) :: r) μ) : jV X d P Q i L (.inl a :: r) μ := jm_fold (jm_CW_mono X jm_PP d) he (by subst hj; exact k)
theorem jv_l2i {a : Int} (he : P[i]? = some (pc, .l2i, len, res)) (hj : i + 1 = j) (hc : jm_r a) (k : jV X d P Q j L (.inl a :: r) μ) : jV X d P Q i L (.inr (.inl a) :: r) μ := jm_fold (jm_CW_mono X jm_PP d) he (by subst hj; exact And.intro hc k)
theorem jv_i2b {a : Int} (he : P[i]? = some (pc, .i2b, len, res)) (hj : i + 1 = j) (k : jV X d P Q j L (.inl (a.bmod 256) :: r) μ) : jV X d P Q i L (.inl a :: r) μ := jm_fold (jm_CW_mono X jm_PP d) he (by subst hj; exact k)
theorem jv_i2s {a : Int} (he : P[i]? = some (pc, .i2s, len, res)) (hj : i + 1 = j) (k : jV X d P Q j L (.inl (a.bmod 65536) :: r) μ) : jV X d P Q i L (.inl a :: r) μ := jm_fold (jm_CW_mono X jm_PP d) he (by subst hj; exact k)
theorem jv_dupi {a : Int} (he : P[i]? = some (pc, .dup, len, res)) (hj : i + 1 = j) (k : jV X d P Q j L (.inl a :: .inl a :: r) μ) : jV X d P Q i L (.inl a :: r) μ := jm_fold (jm_CW_mono X jm_PP d) he (by subst hj; exact k)
theorem jv_dupr {a : Int} (he : P[i]? = some (pc, .dup, len, res)) (hj : i + 1 = j) (k : jV X d P Q j L (.inr (.inr a) :: .inr (.inr a) :: r) μ) : jV X d P Q i L (.inr (.inr a) :: r) μ := jm_fold (jm_CW_mono X jm_PP d) he (by subst hj; exact k)
theorem jv_dup2 {a b : Int} (he : P[i]? = some (pc, .dup2, len, res)) (hj : i + 1 = j) (k : jV X d P Q j L (.inl a :: .inr (.inr b) :: .inl a :: .inr (.inr b) :: r) μ) : jV X d P Q i L (.inl a :: .inr (.inr b) :: r) μ := jm_fold (jm_CW_mono X jm_PP d) he (by subst hj; exact k)
theorem jv_pop {a : Int} (he : P[i]? = some (pc, .pop, len, res)) (hj : i + 1 = j) (k : jV X d P Q j L (r) μ) : jV X d P Q i L (.inl a :: r) μ := jm_fold (jm_CW_mono X jm_PP d) he (by subst hj; exact k)
theorem jv_if_eq {a t off : Int} {j2 : Nat} (he : P[i]? = some (pc, .ifCond .eq off, len, [t])) (hj : t.toNat = j) (hj2 : i + 1 = j2) (k1 : a = 0 → jV X d P Q j L r μ) (k2 : ¬ (a = 0) → jV X d P Q j2 L r μ) : jV X d P Q i L (.inl a :: r) μ := jm_fold (jm_CW_mono X jm_PP d) he (by subst hj; subst hj2; exact And.intro k1 k2)
theorem jv_if_eqT {a t off : Int} (he : P[i]? = some (pc, .ifCond .eq off, len, [t])) (hj : t.toNat = j) (hc : a = 0) (k1 : jV X d P Q j L r μ) : jV X d P Q i L (.inl a :: r) μ := jm_fold (jm_CW_mono X jm_PP d) he (by subst hj; exact And.intro (fun _ => k1) (fun q => absurd hc q))
theorem jv_if_eqF {a t off : Int} (he : P[i]? = some (pc, .ifCond .eq off, len, [t])) (hj : i + 1 = j) (hc : ¬ (a = 0)) (k1 : jV X d P Q j L r μ) : jV X d P Q i L (.inl a :: r) μ := jm_fold (jm_CW_mono X jm_PP d) he (by subst hj; exact And.intro (fun q => absurd q hc) (fun _ => k1))
theorem jv_icmp_eq {a b t off : Int} {j2 : Nat} (he : P[i]? = some (pc, .if_icmp .eq off, len, [t])) (hj : t.toNat = j) (hj2 : i + 1 = j2) (k1 : a = b → jV X d P Q j L r μ) (k2 : ¬ (a = b) → jV X d P Q j2 L r μ) : jV X d P Q i L (.inl b :: .inl a :: r) μ := jm_fold (jm_CW_mono X jm_PP d) he (by subst hj; subst hj2; exact And.intro k1 k2)
theorem jv_icmp_eqT {a b t off : Int} (he : P[i]? = some (pc, .if_icmp .eq off, len, [t])) (hj : t.toNat = j) (hc : a = b) (k1 : jV X d P Q j L r μ) : jV X d P Q i L (.inl b :: .inl a :: r) μ := jm_fold (jm_CW_mono X jm_PP d) he (by subst hj; exact And.intro (fun _ => k1) (fun q => absurd hc q))
theorem jv_icmp_eqF {a b t off : Int} (he : P[i]? = some (pc, .if_icmp .eq off, len, [t])) (hj : i + 1 = j) (hc : ¬ (a = b)) (k1 : jV X d P Q j L r μ) : jV X d P Q i L (.inl b :: .inl a :: r) μ := jm_fold (jm_CW_mono X jm_PP d) he (by subst hj; exact And.intro (fun q => absurd q hc) (fun _ => k1))
theorem jv_if_ne {a t off : Int} {j2 : Nat} (he : P[i]? = some (pc, .ifCond .ne off, len, [t])) (hj : t.toNat = j) (hj2 : i + 1 = j2) (k1 : ¬ a = 0 → jV X d P Q j L r μ) (k2 : ¬ (¬ a = 0) → jV X d P Q j2 L r μ) : jV X d P Q i L (.inl a :: r) μ := jm_fold (jm_CW_mono X jm_PP d) he (by subst hj; subst hj2; exact And.intro k1 k2)
theorem jv_if_neT {a t off : Int} (he : P[i]? = some (pc, .ifCond .ne off, len, [t])) (hj : t.toNat = j) (hc : ¬ a = 0) (k1 : jV X d P Q j L r μ) : jV X d P Q i L (.inl a :: r) μ := jm_fold (jm_CW_mono X jm_PP d) he (by subst hj; exact And.intro (fun _ => k1) (fun q => absurd hc q))
theorem jv_if_neF {a t off : Int} (he : P[i]? = some (pc, .ifCond .ne off, len, [t])) (hj : i + 1 = j) (hc : ¬ (¬ a = 0)) (k1 : jV X d P Q j L r μ) : jV X d P Q i L (.inl a :: r) μ := jm_fold (jm_CW_mono X jm_PP d) he (by subst hj; exact And.intro (fun q => absurd q hc) (fun _ => k1))
theorem jv_icmp_ne {a b t off : Int} {j2 : Nat} (he : P[i]? = some (pc, .if_icmp .ne off, len, [t])) (hj : t.toNat = j) (hj2 : i + 1 = j2) (k1 : ¬ a = b → jV X d P Q j L r μ) (k2 : ¬ (¬ a = b) → jV X d P Q j2 L r μ) : jV X d P Q i L (.inl b :: .inl a :: r) μ := jm_fold (jm_CW_mono X jm_PP d) he (by subst hj; subst hj2; exact And.intro k1 k2)
theorem jv_icmp_neT {a b t off : Int} (he : P[i]? = some (pc, .if_icmp .ne off, len, [t])) (hj : t.toNat = j) (hc : ¬ a = b) (k1 : jV X d P Q j L r μ) : jV X d P Q i L (.inl b :: .inl a :: r) μ := jm_fold (jm_CW_mono X jm_PP d) he (by subst hj; exact And.intro (fun _ => k1) (fun q => absurd hc q))
theorem jv_icmp_neF {a b t off : Int} (he : P[i]? = some (pc, .if_icmp .ne off, len, [t])) (hj : i + 1 = j) (hc : ¬ (¬ a = b)) (k1 : jV X d P Q j L r μ) : jV X d P Q i L (.inl b :: .inl a :: r) μ := jm_fold (jm_CW_mono X jm_PP d) he (by subst hj; exact And.intro (fun q => absurd q hc) (fun _ => k1))
theorem jv_if_lt {a t off : Int} {j2 : Nat} (he : P[i]? = some (pc, .ifCond .lt off, len, [t])) (hj : t.toNat = j) (hj2 : i + 1 = j2) (k1 : a < 0 → jV X d P Q j L r μ) (k2 : ¬ (a < 0) → jV X d P Q j2 L r μ) : jV X d P Q i L (.inl a :: r) μ := jm_fold (jm_CW_mono X jm_PP d) he (by subst hj; subst hj2; exact And.intro k1 k2)
theorem jv_if_ltT {a t off : Int} (he : P[i]? = some (pc, .ifCond .lt off, len, [t])) (hj : t.toNat = j) (hc : a < 0) (k1 : jV X d P Q j L r μ) : jV X d P Q i L (.inl a :: r) μ := jm_fold (jm_CW_mono X jm_PP d) he (by subst hj; exact And.intro (fun _ => k1) (fun q => absurd hc q))
theorem jv_if_ltF {a t off : Int} (he : P[i]? = some (pc, .ifCond .lt off, len, [t])) (hj : i + 1 = j) (hc : ¬ (a < 0)) (k1 : jV X d P Q j L r μ) : jV X d P Q i L (.inl a :: r) μ := jm_fold (jm_CW_mono X jm_PP d) he (by subst hj; exact And.intro (fun q => absurd q hc) (fun _ => k1))
theorem jv_icmp_lt {a b t off : Int} {j2 : Nat} (he : P[i]? = some (pc, .if_icmp .lt off, len, [t])) (hj : t.toNat = j) (hj2 : i + 1 = j2) (k1 : a < b → jV X d P Q j L r μ) (k2 : ¬ (a < b) → jV X d P Q j2 L r μ) : jV X d P Q i L (.inl b :: .inl a :: r) μ := jm_fold (jm_CW_mono X jm_PP d) he (by subst hj; subst hj2; exact And.intro k1 k2)
theorem jv_icmp_ltT {a b t off : Int} (he : P[i]? = some (pc, .if_icmp .lt off, len, [t])) (hj : t.toNat = j) (hc : a < b) (k1 : jV X d P Q j L r μ) : jV X d P Q i L (.inl b :: .inl a :: r) μ := jm_fold (jm_CW_mono X jm_PP d) he (by subst hj; exact And.intro (fun _ => k1) (fun q => absurd hc q))
theorem jv_icmp_ltF {a b t off : Int} (he : P[i]? = some (pc, .if_icmp .lt off, len, [t])) (hj : i + 1 = j) (hc : ¬ (a < b)) (k1 : jV X d P Q j L r μ) : jV X d P Q i L (.inl b :: .inl a :: r) μ := jm_fold (jm_CW_mono X jm_PP d) he (by subst hj; exact And.intro (fun q => absurd q hc) (fun _ => k1))
theorem jv_if_ge {a t off : Int} {j2 : Nat} (he : P[i]? = some (pc, .ifCond .ge off, len, [t])) (hj : t.toNat = j) (hj2 : i + 1 = j2) (k1 : 0 ≤ a → jV X d P Q j L r μ) (k2 : ¬ (0 ≤ a) → jV X d P Q j2 L r μ) : jV X d P Q i L (.inl a :: r) μ := jm_fold (jm_CW_mono X jm_PP d) he (by subst hj; subst hj2; exact And.intro k1 k2)
theorem jv_if_geT {a t off : Int} (he : P[i]? = some (pc, .ifCond .ge off, len, [t])) (hj : t.toNat = j) (hc : 0 ≤ a) (k1 : jV X d P Q j L r μ) : jV X d P Q i L (.inl a :: r) μ := jm_fold (jm_CW_mono X jm_PP d) he (by subst hj; exact And.intro (fun _ => k1) (fun q => absurd hc q))
theorem jv_if_geF {a t off : Int} (he : P[i]? = some (pc, .ifCond .ge off, len, [t])) (hj : i + 1 = j) (hc : ¬ (0 ≤ a)) (k1 : jV X d P Q j L r μ) : jV X d P Q i L (.inl a :: r) μ := jm_fold (jm_CW_mono X jm_PP d) he (by subst hj; exact And.intro (fun q => absurd q hc) (fun _ => k1))
theorem jv_icmp_ge {a b t off : Int} {j2 : Nat} (he : P[i]? = some (pc, .if_icmp .ge off, len, [t])) (hj : t.toNat = j) (hj2 : i + 1 = j2) (k1 : b ≤ a → jV X d P Q j L r μ) (k2 : ¬ (b ≤ a) → jV X d P Q j2 L r μ) : jV X d P Q i L (.inl b :: .inl a :: r) μ := jm_fold (jm_CW_mono X jm_PP d) he (by subst hj; subst hj2; exact And.intro k1 k2)
theorem jv_icmp_geT {a b t off : Int} (he : P[i]? = some (pc, .if_icmp .ge off, len, [t])) (hj : t.toNat = j) (hc : b ≤ a) (k1 : jV X d P Q j L r μ) : jV X d P Q i L (.inl b :: .inl a :: r) μ := jm_fold (jm_CW_mono X jm_PP d) he (by subst hj; exact And.intro (fun _ => k1) (fun q => absurd hc q))
theorem jv_icmp_geF {a b t off : Int} (he : P[i]? = some (pc, .if_icmp .ge off, len, [t])) (hj : i + 1 = j) (hc : ¬ (b ≤ a)) (k1 : jV X d P Q j L r μ) : jV X d P Q i L (.inl b :: .inl a :: r) μ := jm_fold (jm_CW_mono X jm_PP d) he (by subst hj; exact And.intro (fun q => absurd q hc) (fun _ => k1))
theorem jv_if_gt {a t off : Int} {j2 : Nat} (he : P[i]? = some (pc, .ifCond .gt off, len, [t])) (hj : t.toNat = j) (hj2 : i + 1 = j2) (k1 : 0 < a → jV X d P Q j L r μ) (k2 : ¬ (0 < a) → jV X d P Q j2 L r μ) : jV X d P Q i L (.inl a :: r) μ := jm_fold (jm_CW_mono X jm_PP d) he (by subst hj; subst hj2; exact And.intro k1 k2)
theorem jv_if_gtT {a t off : Int} (he : P[i]? = some (pc, .ifCond .gt off, len, [t])) (hj : t.toNat = j) (hc : 0 < a) (k1 : jV X d P Q j L r μ) : jV X d P Q i L (.inl a :: r) μ := jm_fold (jm_CW_mono X jm_PP d) he (by subst hj; exact And.intro (fun _ => k1) (fun q => absurd hc q))
theorem jv_if_gtF {a t off : Int} (he : P[i]? = some (pc, .ifCond .gt off, len, [t])) (hj : i + 1 = j) (hc : ¬ (0 < a)) (k1 : jV X d P Q j L r μ) : jV X d P Q i L (.inl a :: r) μ := jm_fold (jm_CW_mono X jm_PP d) he (by subst hj; exact And.intro (fun q => absurd q hc) (fun _ => k1))
theorem jv_icmp_gt {a b t off : Int} {j2 : Nat} (he : P[i]? = some (pc, .if_icmp .gt off, len, [t])) (hj : t.toNat = j) (hj2 : i + 1 = j2) (k1 : b < a → jV X d P Q j L r μ) (k2 : ¬ (b < a) → jV X d P Q j2 L r μ) : jV X d P Q i L (.inl b :: .inl a :: r) μ := jm_fold (jm_CW_mono X jm_PP d) he (by subst hj; subst hj2; exact And.intro k1 k2)
theorem jv_icmp_gtT {a b t off : Int} (he : P[i]? = some (pc, .if_icmp .gt off, len, [t])) (hj : t.toNat = j) (hc : b < a) (k1 : jV X d P Q j L r μ) : jV X d P Q i L (.inl b :: .inl a :: r) μ := jm_fold (jm_CW_mono X jm_PP d) he (by subst hj; exact And.intro (fun _ => k1) (fun q => absurd hc q))
theorem jv_icmp_gtF {a b t off : Int} (he : P[i]? = some (pc, .if_icmp .gt off, len, [t])) (hj : i + 1 = j) (hc : ¬ (b < a)) (k1 : jV X d P Q j L r μ) : jV X d P Q i L (.inl b :: .inl a :: r) μ := jm_fold (jm_CW_mono X jm_PP d) he (by subst hj; exact And.intro (fun q => absurd q hc) (fun _ => k1))
theorem jv_if_le {a t off : Int} {j2 : Nat} (he : P[i]? = some (pc, .ifCond .le off, len, [t])) (hj : t.toNat = j) (hj2 : i + 1 = j2) (k1 : a ≤ 0 → jV X d P Q j L r μ) (k2 : ¬ (a ≤ 0) → jV X d P Q j2 L r μ) : jV X d P Q i L (.inl a :: r) μ := jm_fold (jm_CW_mono X jm_PP d) he (by subst hj; subst hj2; exact And.intro k1 k2)
theorem jv_if_leT {a t off : Int} (he : P[i]? = some (pc, .ifCond .le off, len, [t])) (hj : t.toNat = j) (hc : a ≤ 0) (k1 : jV X d P Q j L r μ) : jV X d P Q i L (.inl a :: r) μ := jm_fold (jm_CW_mono X jm_PP d) he (by subst hj; exact And.intro (fun _ => k1) (fun q => absurd hc q))
theorem jv_if_leF {a t off : Int} (he : P[i]? = some (pc, .ifCond .le off, len, [t])) (hj : i + 1 = j) (hc : ¬ (a ≤ 0)) (k1 : jV X d P Q j L r μ) : jV X d P Q i L (.inl a :: r) μ := jm_fold (jm_CW_mono X jm_PP d) he (by subst hj; exact And.intro (fun q => absurd q hc) (fun _ => k1))
theorem jv_icmp_le {a b t off : Int} {j2 : Nat} (he : P[i]? = some (pc, .if_icmp .le off, len, [t])) (hj : t.toNat = j) (hj2 : i + 1 = j2) (k1 : a ≤ b → jV X d P Q j L r μ) (k2 : ¬ (a ≤ b) → jV X d P Q j2 L r μ) : jV X d P Q i L (.inl b :: .inl a :: r) μ := jm_fold (jm_CW_mono X jm_PP d) he (by subst hj; subst hj2; exact And.intro k1 k2)
theorem jv_icmp_leT {a b t off : Int} (he : P[i]? = some (pc, .if_icmp .le off, len, [t])) (hj : t.toNat = j) (hc : a ≤ b) (k1 : jV X d P Q j L r μ) : jV X d P Q i L (.inl b :: .inl a :: r) μ := jm_fold (jm_CW_mono X jm_PP d) he (by subst hj; exact And.intro (fun _ => k1) (fun q => absurd hc q))
theorem jv_icmp_leF {a b t off : Int} (he : P[i]? = some (pc, .if_icmp .le off, len, [t])) (hj : i + 1 = j) (hc : ¬ (a ≤ b)) (k1 : jV X d P Q j L r μ) : jV X d P Q i L (.inl b :: .inl a :: r) μ := jm_fold (jm_CW_mono X jm_PP d) he (by subst hj; exact And.intro (fun q => absurd q hc) (fun _ => k1))
theorem jv_goto {t off : Int} (he : P[i]? = some (pc, .goto off, len, [t])) (hj : t.toNat = j) (k : jV X d P Q j L (st) μ) : jV X d P Q i L st μ := jm_fold (jm_CW_mono X jm_PP d) he (by subst hj; exact k)
theorem jv_tsw {a dd lo hi : Int} {offs : Array Int} (he : P[i]? = some (pc, .tableswitch dd lo hi offs, len, res)) (k : jm_sw (fun t => jV X d P Q t L r μ) a res) : jV X d P Q i L (.inl a :: r) μ := jm_fold (jm_CW_mono X jm_PP d) he k
theorem jv_lsw {a dd : Int} {ps : Array (Int × Int)} (he : P[i]? = some (pc, .lookupswitch dd ps, len, res)) (k : jm_sw (fun t => jV X d P Q t L r μ) a res) : jV X d P Q i L (.inl a :: r) μ := jm_fold (jm_CW_mono X jm_PP d) he k
theorem jv_geti {x : Nat} {z c k0 t : Int} {kd ln : Nat} {rf : List Int} (he : P[i]? = some (pc, .getfield x, len, [c, k0, t])) (hj : i + 1 = j) (hs : jm_SH[z.toNat]? = some (kd, ln, rf)) (hz : 0 ≤ z ∧ kd = 10 + c.toNat) (ht : ¬ t = 2) (k : jV X d P Q j L (.inl (μ z k0) :: r) μ) : jV X d P Q i L (.inr (.inr z) :: r) μ := jm_fold (jm_CW_mono X jm_PP d) he (by subst hj; simp only [jm_sem, hs, if_neg ht]; exact And.intro hz k)
theorem jv_getr {x : Nat} {z c k0 t w : Int} {kd ln : Nat} {rf : List Int} (he : P[i]? = some (pc, .getfield x, len, [c, k0, t])) (hj : i + 1 = j) (hs : jm_SH[z.toNat]? = some (kd, ln, rf)) (hz : 0 ≤ z ∧ kd = 10 + c.toNat) (ht : t = 2) (hw : rf.getD k0.toNat (-1) = w) (k : jV X d P Q j L (.inr (.inr w) :: r) μ) : jV X d P Q i L (.inr (.inr z) :: r) μ := jm_fold (jm_CW_mono X jm_PP d) he (by subst hj; subst hw; simp only [jm_sem, hs, if_pos ht]; exact And.intro hz k)
theorem jv_puti {x : Nat} {z c k0 t v : Int} {kd ln : Nat} {rf : List Int} (he : P[i]? = some (pc, .putfield x, len, [c, k0, t])) (hj : i + 1 = j) (hs : jm_SH[z.toNat]? = some (kd, ln, rf)) (hz : 0 ≤ z ∧ kd = 10 + c.toNat) (ht : t = 0 ∨ (t = 1 ∧ (v = 0 ∨ v = 1))) (k : ∀ μ2, μ2 = jm_uc μ z (jm_u1 (μ z) k0 v) → jV X d P Q j L r μ2) : jV X d P Q i L (.inl v :: .inr (.inr z) :: r) μ := jm_fold (jm_CW_mono X jm_PP d) he (by subst hj; simp only [jm_sem, hs]; exact And.intro hz (And.intro ht (k _ rfl)))
theorem jv_getstatic {x : Nat} {k0 : Int} (he : P[i]? = some (pc, .getstatic x, len, [k0])) (hj : i + 1 = j) (k : jV X d P Q j L (.inr (.inr k0) :: st) μ) : jV X d P Q i L st μ := jm_fold (jm_CW_mono X jm_PP d) he (by subst hj; exact k)
theorem jv_iaload {z a : Int} {ln : Nat} {rf : List Int} (he : P[i]? = some (pc, .iaload, len, res)) (hj : i + 1 = j) (hz : 0 ≤ z) (hs : jm_SH[z.toNat]? = some (0, ln, rf)) (hb : 0 ≤ a ∧ a < ln) (k : jV X d P Q j L (.inl (μ z a) :: r) μ) : jV X d P Q i L (.inl a :: .inr (.inr z) :: r) μ := jm_fold (jm_CW_mono X jm_PP d) he (by subst hj; simp only [jm_sem, if_pos hz, hs]; exact And.intro (by trivial) (And.intro hb k))
theorem jv_xaload {z a : Int} {ln : Nat} {f : Int → Int} (he : P[i]? = some (pc, .iaload, len, res)) (hj : i + 1 = j) (hz : z ≤ -2 ∧ -7 ≤ z) (hs : X (-2 - z).toNat = (ln, f)) (hb : 0 ≤ a ∧ a < ln) (k : jV X d P Q j L (.inl (f a) :: r) μ) : jV X d P Q i L (.inl a :: .inr (.inr z) :: r) μ := jm_fold (jm_CW_mono X jm_PP d) he (by subst hj; simp only [jm_sem, if_neg (show ¬ 0 ≤ z by omega), hs]; exact And.intro hz (And.intro hb k))
theorem jv_baload {z a : Int} {ln : Nat} {rf : List Int} (he : P[i]? = some (pc, .baload, len, res)) (hj : i + 1 = j) (hs : jm_SH[z.toNat]? = some (1, ln, rf)) (hz : 0 ≤ z) (hb : 0 ≤ a ∧ a < ln) (k : jV X d P Q j L (.inl (μ z a) :: r) μ) : jV X d P Q i L (.inl a :: .inr (.inr z) :: r) μ := jm_fold (jm_CW_mono X jm_PP d) he (by subst hj; simp only [jm_sem, hs]; exact And.intro ⟨hz, by trivial⟩ (And.intro hb k))
theorem jv_aaload {z a : Int} {kd ln : Nat} {rf : List Int} (he : P[i]? = some (pc, .aaload, len, res)) (hj : i + 1 = j) (hs : jm_SH[z.toNat]? = some (kd, ln, rf)) (hz : 0 ≤ z ∧ 2 ≤ kd ∧ kd < 5) (hb : 0 ≤ a ∧ a < ln) (k : jV X d P Q j L (.inr (.inr (μ z a)) :: r) μ) : jV X d P Q i L (.inl a :: .inr (.inr z) :: r) μ := jm_fold (jm_CW_mono X jm_PP d) he (by subst hj; simp only [jm_sem, hs]; exact And.intro hz (And.intro hb k))
theorem jv_iastore {z a v : Int} {ln : Nat} {rf : List Int} (he : P[i]? = some (pc, .iastore, len, res)) (hj : i + 1 = j) (hs : jm_SH[z.toNat]? = some (0, ln, rf)) (hz : 0 ≤ z) (hb : 0 ≤ a ∧ a < ln) (k : ∀ μ2, μ2 = jm_uc μ z (jm_u1 (μ z) a v) → jV X d P Q j L r μ2) : jV X d P Q i L (.inl v :: .inl a :: .inr (.inr z) :: r) μ := jm_fold (jm_CW_mono X jm_PP d) he (by subst hj; simp only [jm_sem, hs]; exact And.intro ⟨hz, by trivial⟩ (And.intro hb (k _ rfl)))
theorem jv_bastore {z a v : Int} {ln : Nat} {rf : List Int} (he : P[i]? = some (pc, .bastore, len, res)) (hj : i + 1 = j) (hs : jm_SH[z.toNat]? = some (1, ln, rf)) (hz : 0 ≤ z) (hb : 0 ≤ a ∧ a < ln) (hv : v = 0 ∨ v = 1) (k : ∀ μ2, μ2 = jm_uc μ z (jm_u1 (μ z) a v) → jV X d P Q j L r μ2) : jV X d P Q i L (.inl v :: .inl a :: .inr (.inr z) :: r) μ := jm_fold (jm_CW_mono X jm_PP d) he (by subst hj; simp only [jm_sem, hs]; exact And.intro ⟨hz, by trivial⟩ (And.intro hb (And.intro hv (k _ rfl))))
theorem jv_aastore {z a v : Int} {kd ln kd2 ln2 : Nat} {rf rf2 : List Int} (he : P[i]? = some (pc, .aastore, len, res)) (hj : i + 1 = j) (hs : jm_SH[z.toNat]? = some (kd, ln, rf)) (hs2 : jm_SH[v.toNat]? = some (kd2, ln2, rf2)) (hz : 0 ≤ z ∧ (0 ≤ v ∧ v ≤ 100000) ∧ ((kd = 2 ∧ kd2 = 15) ∨ (kd = 3 ∧ kd2 = 11) ∨ (kd = 4 ∧ kd2 = 14))) (hb : 0 ≤ a ∧ a < ln) (k : ∀ μ2, μ2 = jm_uc μ z (jm_u1 (μ z) a v) → jV X d P Q j L r μ2) : jV X d P Q i L (.inr (.inr v) :: .inl a :: .inr (.inr z) :: r) μ := jm_fold (jm_CW_mono X jm_PP d) he (by subst hj; simp only [jm_sem, hs, hs2]; exact And.intro hz (And.intro hb (k _ rfl)))
theorem jv_alen {z : Int} {ln : Nat} {f : Int → Int} (he : P[i]? = some (pc, .arraylength, len, res)) (hj : i + 1 = j) (hz : z ≤ -2 ∧ -7 ≤ z) (hs : X (-2 - z).toNat = (ln, f)) (k : jV X d P Q j L (.inl (ln : Int) :: r) μ) : jV X d P Q i L (.inr (.inr z) :: r) μ := jm_fold (jm_CW_mono X jm_PP d) he (by subst hj; simp only [jm_sem, hs]; exact And.intro hz k)
theorem jv_min {x : Nat} {a b w : Int} (he : P[i]? = some (pc, .invokestatic x, len, [w])) (hj : i + 1 = j) (hr : r.length ≤ 4) (k : jV X d P Q j L (.inl (min a b) :: r) μ) : jV X d P Q i L (.inl b :: .inl a :: r) μ := jm_fold (jm_CW_mono X jm_PP d) he (by subst hj; exact And.intro hr k)
theorem jv_acopy {x : Nat} {n dp dd sp qq : Int} {ln ln2 : Nat} {rf rf2 : List Int} (he : P[i]? = some (pc, .invokestatic x, len, [])) (hj : i + 1 = j) (hs : jm_SH[qq.toNat]? = some (0, ln, rf)) (hs2 : jm_SH[dd.toNat]? = some (0, ln2, rf2)) (hz : 0 ≤ qq ∧ 0 ≤ dd) (hr : r.length ≤ 4) (hb : (0 ≤ sp ∧ 0 ≤ dp ∧ 0 ≤ n) ∧ sp + n ≤ ln ∧ dp + n ≤ ln2) (k : ∀ μ2, μ2 = jm_uc μ dd (jm_cpy (μ qq) (μ dd) sp dp n) → jV X d P Q j L r μ2) : jV X d P Q i L (.inl n :: .inl dp :: .inr (.inr dd) :: .inl sp :: .inr (.inr qq) :: r) μ := jm_fold (jm_CW_mono X jm_PP d) he (by subst hj; simp only [jm_sem, hs, hs2]; exact And.intro ⟨hz.1, hz.2, by trivial, by trivial, hr⟩ (And.intro hb (k _ rfl)))
theorem jv_callV0 {x : Nat} {n c z : Int} {f kd ln : Nat} {rf : List Int} (he : P[i]? = some (pc, .invokevirtual x, len, [n, 0, c])) (hj : i + 1 = j) (hf : n.toNat = f) (hs : jm_SH[z.toNat]? = some (kd, ln, rf)) (hz : 0 ≤ z ∧ kd = 10 + c.toNat) (hr : r.length ≤ 4) (k : cV X d f [.inr (.inr z)] μ (fun v μ2 => jV X d P Q j L (v ++ r) μ2)) : jV X d P Q i L (.inr (.inr z) :: r) μ := jm_fold (jm_CW_mono X jm_PP d) he (by
  subst hj hf
  have e1 : List.drop ((0 : Int).toNat) (.inr (.inr z) :: r) = .inr (.inr z) :: r := rfl
  have e2 : (List.take ((0 : Int).toNat) (.inr (.inr z) :: r)).reverse = [] := rfl
  simp only [jm_sem, e1, e2, hs]
  refine And.intro ⟨hz.1, hr, hz.2⟩ (jm_CW_mono X jm_PP d _ _ _ _ _ (fun v h q => ?_) k)
  obtain ⟨h1, h2⟩ := h
  obtain ⟨q1, q2⟩ := q
  cases q1
  exact q2)
theorem jv_callV1 {v1 : jm_V} {x : Nat} {n c z : Int} {f kd ln : Nat} {rf : List Int} (he : P[i]? = some (pc, .invokevirtual x, len, [n, 1, c])) (hj : i + 1 = j) (hf : n.toNat = f) (hs : jm_SH[z.toNat]? = some (kd, ln, rf)) (hz : 0 ≤ z ∧ kd = 10 + c.toNat) (hr : r.length ≤ 4) (k : cV X d f [.inr (.inr z), v1] μ (fun v μ2 => jV X d P Q j L (v ++ r) μ2)) : jV X d P Q i L (v1 :: .inr (.inr z) :: r) μ := jm_fold (jm_CW_mono X jm_PP d) he (by
  subst hj hf
  have e1 : List.drop ((1 : Int).toNat) (v1 :: .inr (.inr z) :: r) = .inr (.inr z) :: r := rfl
  have e2 : (List.take ((1 : Int).toNat) (v1 :: .inr (.inr z) :: r)).reverse = [v1] := rfl
  simp only [jm_sem, e1, e2, hs]
  refine And.intro ⟨hz.1, hr, hz.2⟩ (jm_CW_mono X jm_PP d _ _ _ _ _ (fun v h q => ?_) k)
  obtain ⟨h1, h2⟩ := h
  obtain ⟨q1, q2⟩ := q
  cases q1
  exact q2)
theorem jv_callV2 {v1 v2 : jm_V} {x : Nat} {n c z : Int} {f kd ln : Nat} {rf : List Int} (he : P[i]? = some (pc, .invokevirtual x, len, [n, 2, c])) (hj : i + 1 = j) (hf : n.toNat = f) (hs : jm_SH[z.toNat]? = some (kd, ln, rf)) (hz : 0 ≤ z ∧ kd = 10 + c.toNat) (hr : r.length ≤ 4) (k : cV X d f [.inr (.inr z), v1, v2] μ (fun v μ2 => jV X d P Q j L (v ++ r) μ2)) : jV X d P Q i L (v2 :: v1 :: .inr (.inr z) :: r) μ := jm_fold (jm_CW_mono X jm_PP d) he (by
  subst hj hf
  have e1 : List.drop ((2 : Int).toNat) (v2 :: v1 :: .inr (.inr z) :: r) = .inr (.inr z) :: r := rfl
  have e2 : (List.take ((2 : Int).toNat) (v2 :: v1 :: .inr (.inr z) :: r)).reverse = [v1, v2] := rfl
  simp only [jm_sem, e1, e2, hs]
  refine And.intro ⟨hz.1, hr, hz.2⟩ (jm_CW_mono X jm_PP d _ _ _ _ _ (fun v h q => ?_) k)
  obtain ⟨h1, h2⟩ := h
  obtain ⟨q1, q2⟩ := q
  cases q1
  exact q2)
theorem jv_callV3 {v1 v2 v3 : jm_V} {x : Nat} {n c z : Int} {f kd ln : Nat} {rf : List Int} (he : P[i]? = some (pc, .invokevirtual x, len, [n, 3, c])) (hj : i + 1 = j) (hf : n.toNat = f) (hs : jm_SH[z.toNat]? = some (kd, ln, rf)) (hz : 0 ≤ z ∧ kd = 10 + c.toNat) (hr : r.length ≤ 4) (k : cV X d f [.inr (.inr z), v1, v2, v3] μ (fun v μ2 => jV X d P Q j L (v ++ r) μ2)) : jV X d P Q i L (v3 :: v2 :: v1 :: .inr (.inr z) :: r) μ := jm_fold (jm_CW_mono X jm_PP d) he (by
  subst hj hf
  have e1 : List.drop ((3 : Int).toNat) (v3 :: v2 :: v1 :: .inr (.inr z) :: r) = .inr (.inr z) :: r := rfl
  have e2 : (List.take ((3 : Int).toNat) (v3 :: v2 :: v1 :: .inr (.inr z) :: r)).reverse = [v1, v2, v3] := rfl
  simp only [jm_sem, e1, e2, hs]
  refine And.intro ⟨hz.1, hr, hz.2⟩ (jm_CW_mono X jm_PP d _ _ _ _ _ (fun v h q => ?_) k)
  obtain ⟨h1, h2⟩ := h
  obtain ⟨q1, q2⟩ := q
  cases q1
  exact q2)
theorem jv_callV4 {v1 v2 v3 v4 : jm_V} {x : Nat} {n c z : Int} {f kd ln : Nat} {rf : List Int} (he : P[i]? = some (pc, .invokevirtual x, len, [n, 4, c])) (hj : i + 1 = j) (hf : n.toNat = f) (hs : jm_SH[z.toNat]? = some (kd, ln, rf)) (hz : 0 ≤ z ∧ kd = 10 + c.toNat) (hr : r.length ≤ 4) (k : cV X d f [.inr (.inr z), v1, v2, v3, v4] μ (fun v μ2 => jV X d P Q j L (v ++ r) μ2)) : jV X d P Q i L (v4 :: v3 :: v2 :: v1 :: .inr (.inr z) :: r) μ := jm_fold (jm_CW_mono X jm_PP d) he (by
  subst hj hf
  have e1 : List.drop ((4 : Int).toNat) (v4 :: v3 :: v2 :: v1 :: .inr (.inr z) :: r) = .inr (.inr z) :: r := rfl
  have e2 : (List.take ((4 : Int).toNat) (v4 :: v3 :: v2 :: v1 :: .inr (.inr z) :: r)).reverse = [v1, v2, v3, v4] := rfl
  simp only [jm_sem, e1, e2, hs]
  refine And.intro ⟨hz.1, hr, hz.2⟩ (jm_CW_mono X jm_PP d _ _ _ _ _ (fun v h q => ?_) k)
  obtain ⟨h1, h2⟩ := h
  obtain ⟨q1, q2⟩ := q
  cases q1
  exact q2)
theorem jv_callV5 {v1 v2 v3 v4 v5 : jm_V} {x : Nat} {n c z : Int} {f kd ln : Nat} {rf : List Int} (he : P[i]? = some (pc, .invokevirtual x, len, [n, 5, c])) (hj : i + 1 = j) (hf : n.toNat = f) (hs : jm_SH[z.toNat]? = some (kd, ln, rf)) (hz : 0 ≤ z ∧ kd = 10 + c.toNat) (hr : r.length ≤ 4) (k : cV X d f [.inr (.inr z), v1, v2, v3, v4, v5] μ (fun v μ2 => jV X d P Q j L (v ++ r) μ2)) : jV X d P Q i L (v5 :: v4 :: v3 :: v2 :: v1 :: .inr (.inr z) :: r) μ := jm_fold (jm_CW_mono X jm_PP d) he (by
  subst hj hf
  have e1 : List.drop ((5 : Int).toNat) (v5 :: v4 :: v3 :: v2 :: v1 :: .inr (.inr z) :: r) = .inr (.inr z) :: r := rfl
  have e2 : (List.take ((5 : Int).toNat) (v5 :: v4 :: v3 :: v2 :: v1 :: .inr (.inr z) :: r)).reverse = [v1, v2, v3, v4, v5] := rfl
  simp only [jm_sem, e1, e2, hs]
  refine And.intro ⟨hz.1, hr, hz.2⟩ (jm_CW_mono X jm_PP d _ _ _ _ _ (fun v h q => ?_) k)
  obtain ⟨h1, h2⟩ := h
  obtain ⟨q1, q2⟩ := q
  cases q1
  exact q2)
theorem jv_callS1 {v1 : jm_V} {x : Nat} {n : Int} {f : Nat} (he : P[i]? = some (pc, .invokestatic x, len, [n, 1])) (hj : i + 1 = j) (hf : n.toNat = f) (hr : r.length ≤ 4) (k : cV X d f [v1] μ (fun v μ2 => jV X d P Q j L (v ++ r) μ2)) : jV X d P Q i L (v1 :: r) μ := jm_fold (jm_CW_mono X jm_PP d) he (by
  subst hj hf
  have e1 : List.drop ((1 : Int).toNat) (v1 :: r) = r := rfl
  have e2 : (List.take ((1 : Int).toNat) (v1 :: r)).reverse = [v1] := rfl
  simp only [jm_sem, e1, e2]
  refine And.intro ⟨by show 1 ≤ (v1 :: r).length; simp, hr⟩ (jm_CW_mono X jm_PP d _ _ _ _ _ (fun v h q => ?_) k)
  obtain ⟨h1, h2⟩ := h
  obtain ⟨q1, q2⟩ := q
  cases q1
  exact q2)
theorem jv_callS2 {v1 v2 : jm_V} {x : Nat} {n : Int} {f : Nat} (he : P[i]? = some (pc, .invokestatic x, len, [n, 2])) (hj : i + 1 = j) (hf : n.toNat = f) (hr : r.length ≤ 4) (k : cV X d f [v1, v2] μ (fun v μ2 => jV X d P Q j L (v ++ r) μ2)) : jV X d P Q i L (v2 :: v1 :: r) μ := jm_fold (jm_CW_mono X jm_PP d) he (by
  subst hj hf
  have e1 : List.drop ((2 : Int).toNat) (v2 :: v1 :: r) = r := rfl
  have e2 : (List.take ((2 : Int).toNat) (v2 :: v1 :: r)).reverse = [v1, v2] := rfl
  simp only [jm_sem, e1, e2]
  refine And.intro ⟨by show 2 ≤ (v2 :: v1 :: r).length; simp, hr⟩ (jm_CW_mono X jm_PP d _ _ _ _ _ (fun v h q => ?_) k)
  obtain ⟨h1, h2⟩ := h
  obtain ⟨q1, q2⟩ := q
  cases q1
  exact q2)
theorem jv_callS3 {v1 v2 v3 : jm_V} {x : Nat} {n : Int} {f : Nat} (he : P[i]? = some (pc, .invokestatic x, len, [n, 3])) (hj : i + 1 = j) (hf : n.toNat = f) (hr : r.length ≤ 4) (k : cV X d f [v1, v2, v3] μ (fun v μ2 => jV X d P Q j L (v ++ r) μ2)) : jV X d P Q i L (v3 :: v2 :: v1 :: r) μ := jm_fold (jm_CW_mono X jm_PP d) he (by
  subst hj hf
  have e1 : List.drop ((3 : Int).toNat) (v3 :: v2 :: v1 :: r) = r := rfl
  have e2 : (List.take ((3 : Int).toNat) (v3 :: v2 :: v1 :: r)).reverse = [v1, v2, v3] := rfl
  simp only [jm_sem, e1, e2]
  refine And.intro ⟨by show 3 ≤ (v3 :: v2 :: v1 :: r).length; simp, hr⟩ (jm_CW_mono X jm_PP d _ _ _ _ _ (fun v h q => ?_) k)
  obtain ⟨h1, h2⟩ := h
  obtain ⟨q1, q2⟩ := q
  cases q1
  exact q2)
theorem jv_ireturn {v t : Int} (he : P[i]? = some (pc, .ireturn, len, [t])) (ht : t = 0 ∨ (t = 1 ∧ (v = 0 ∨ v = 1))) (k : Q [.inl v] μ) : jV X d P Q i L [.inl v] μ := jm_fold (jm_CW_mono X jm_PP d) he (And.intro ht (And.intro rfl k))
theorem jv_return (he : P[i]? = some (pc, .return_, len, res)) (k : Q [] μ) : jV X d P Q i L [] μ := jm_fold (jm_CW_mono X jm_PP d) he (And.intro rfl k)
end JVR
end
section
theorem jm_sw_1 {K : Nat → Prop} {a t : Int} (h : K t.toNat) : jm_sw K a [t] := h
section JVR2
variable {X : jm_X} {d : Nat} {P : List jm_E} {Q : jv_P} {i j : Nat} {L L2 : jm_L} {st r : List jm_V} {μ : jm_M} {pc len : Nat} {res : List Int}
theorem jv_istoreK {k0 : Nat} {z : Int} (he : P[i]? = some (pc, .istore k0, len, res)) (hj : i + 1 = j) (hL : jm_set L k0 (.inl z) = L2) (k : jV X d P Q j L2 r μ) : jV X d P Q i L (.inl z :: r) μ := jm_fold (jm_CW_mono X jm_PP d) he (by subst hj; subst hL; exact k)
theorem jv_istore_nK {k0 : Fin 4} {z : Int} (he : P[i]? = some (pc, .istore_n k0, len, res)) (hj : i + 1 = j) (hL : jm_set L k0.val (.inl z) = L2) (k : jV X d P Q j L2 r μ) : jV X d P Q i L (.inl z :: r) μ := jm_fold (jm_CW_mono X jm_PP d) he (by subst hj; subst hL; exact k)
theorem jv_iincK {k0 : Nat} {n z : Int} (he : P[i]? = some (pc, .iinc k0 n, len, res)) (hj : i + 1 = j) (hl : L[k0]? = some (some (.inl z))) (hc : jm_r (z + n)) (hL : jm_set L k0 (.inl (z + n)) = L2) (k : jV X d P Q j L2 st μ) : jV X d P Q i L st μ := jm_fold (jm_CW_mono X jm_PP d) he (by subst hj; subst hL; simp only [jm_sem, hl]; exact And.intro hc k)
theorem jm_uc_at (μ : jm_M) (z a : Int) (f : Int → Int) : jm_uc μ z f a = if a = z then f else μ a := rfl
theorem jm_u1_at (f : Int → Int) (j v b : Int) : jm_u1 f j v b = if b = j then v else f b := rfl
theorem jm_uc2 (μ : jm_M) (z : Int) (f g : Int → Int) : jm_uc (jm_uc μ z f) z g = jm_uc μ z g := by
  funext a
  simp only [jm_uc]
  split <;> rfl
theorem jm_uc_id (μ : jm_M) (z : Int) : jm_uc μ z (μ z) = μ := by
  funext a
  simp only [jm_uc]
  split
  · rename_i h; rw [h]
  · rfl
theorem jm_uc_swap {μ : jm_M} {a b : Int} {f g : Int → Int} (h : a ≠ b) : jm_uc (jm_uc μ a f) b g = jm_uc (jm_uc μ b g) a f := by
  funext x
  simp only [jm_uc]
  split <;> split <;> first | rfl | (exfalso; omega)
end JVR2
/-! the hotel as a row of 62 numbers (a town), and what a coming does to it -/
def jt_lies (t : Int → Int) (m : Int) : Int := t (8 + 6 * m) + t (8 + 6 * m + 1) + t (8 + 6 * m + 2) + t (8 + 6 * m + 3) + t (8 + 6 * m + 4) + t (8 + 6 * m + 5)
/-- what one of a sort leaves, were there no end to what he has and the mat takes -/
def jt_wip (sort fr man place country has : Int) : Int := if sort = 2 then (if country = fr then 2 * man else man) else if sort = 3 then (if place = 0 then 0 else man) else if sort = 4 then (if place = 0 then has / 2 else 0) else if sort = 5 then has / 2 else man
def jt_by (t : Int → Int) (c m yet : Int) : Int := min (min (jt_wip (t (32 + c)) (t (44 + c)) (t (50 + c)) m (t (4 + m)) yet) yet) (t 2 - jt_lies t m)
def jt_y (t : Int → Int) (c : Int) : Nat → Int
  | 0 => t (38 + c)
  | k + 1 => jt_y t c k - jt_by t c k (jt_y t c k)
/-- the first n mats have got what he leaves -/
def jt_part (t : Int → Int) (c n : Int) : Int → Int := fun j => if 8 ≤ j ∧ j < 8 + 6 * n ∧ (j - 8) % 6 = t (44 + c) then t j + jt_by t c ((j - 8) / 6) (jt_y t c ((j - 8) / 6).toNat) else t j
def jt_come (t : Int → Int) (c : Int) : Int → Int := fun j => if j = 56 + c then t j + 1 else jt_part t c (t 0) j
def jt_wf (t : Int → Int) : Prop := (0 ≤ t 0 ∧ t 0 ≤ 4) ∧ (0 ≤ t 1 ∧ t 1 ≤ 6) ∧ (0 ≤ t 2 ∧ t 2 ≤ 60) ∧ (0 ≤ t 3 ∧ t 3 ≤ 9) ∧ (∀ m, 0 ≤ m → m < 4 → 0 ≤ t (4 + m) ∧ t (4 + m) ≤ 5) ∧ (∀ j, 8 ≤ j → j < 32 → 0 ≤ t j ∧ t j ≤ 60) ∧ (∀ m, 0 ≤ m → m < 4 → jt_lies t m ≤ t 2) ∧
  (∀ c, 0 ≤ c → c < 6 → (0 ≤ t (32 + c) ∧ t (32 + c) ≤ 5) ∧ (0 ≤ t (38 + c) ∧ t (38 + c) ≤ 60) ∧ (0 ≤ t (44 + c) ∧ t (44 + c) ≤ 5) ∧ (0 ≤ t (50 + c) ∧ t (50 + c) ≤ 9))
def jt_cf (t : Int → Int) (K : Int) : Prop := ∀ c, 0 ≤ c → c < 6 → 0 ≤ t (56 + c) ∧ t (56 + c) ≤ K
theorem jt_lies_r {t : Int → Int} (h : jt_wf t) {m : Int} (h0 : 0 ≤ m) (h1 : m < 4) : 0 ≤ jt_lies t m ∧ jt_lies t m ≤ t 2 := by
  obtain ⟨-, -, -, -, -, a6, a7, -⟩ := h
  refine ⟨?_, a7 m h0 h1⟩
  unfold jt_lies
  have b0 := a6 (8 + 6 * m) (by omega) (by omega)
  have b1 := a6 (8 + 6 * m + 1) (by omega) (by omega)
  have b2 := a6 (8 + 6 * m + 2) (by omega) (by omega)
  have b3 := a6 (8 + 6 * m + 3) (by omega) (by omega)
  have b4 := a6 (8 + 6 * m + 4) (by omega) (by omega)
  have b5 := a6 (8 + 6 * m + 5) (by omega) (by omega)
  omega
theorem jt_wip_r {s f n p c h : Int} (hn : 0 ≤ n ∧ n ≤ 9) (hh : 0 ≤ h ∧ h ≤ 60) : 0 ≤ jt_wip s f n p c h ∧ jt_wip s f n p c h ≤ 60 := by
  unfold jt_wip
  repeat' split
  all_goals omega
theorem jt_by_r {t : Int → Int} (h : jt_wf t) {c m y : Int} (c0 : 0 ≤ c) (c1 : c < 6) (m0 : 0 ≤ m) (m1 : m < 4) (hy : 0 ≤ y ∧ y ≤ 60) : 0 ≤ jt_by t c m y ∧ jt_by t c m y ≤ y := by
  have h1 := jt_lies_r h m0 m1
  have h2 := jt_wip_r (s := t (32 + c)) (f := t (44 + c)) (p := m) (c := t (4 + m)) (h.2.2.2.2.2.2.2 c c0 c1).2.2.2 hy
  unfold jt_by
  omega
theorem jt_y_r {t : Int → Int} (h : jt_wf t) {c : Int} (c0 : 0 ≤ c) (c1 : c < 6) : ∀ k : Nat, k ≤ 4 → 0 ≤ jt_y t c k ∧ jt_y t c k ≤ 60
  | 0, _ => (h.2.2.2.2.2.2.2 c c0 c1).2.1
  | k + 1, hk => by
    have h1 := jt_y_r h c0 c1 k (by omega)
    have h2 := jt_by_r h c0 c1 (m := k) (by omega) (by omega) h1
    simp only [jt_y]
    omega
theorem jt_part_lies {t : Int → Int} (h : jt_wf t) {c n m : Int} (c0 : 0 ≤ c) (c1 : c < 6) (m0 : 0 ≤ m) (m1 : m < 4) (n4 : n ≤ 4) : jt_lies (jt_part t c n) m = jt_lies t m + if m < n then jt_by t c m (jt_y t c m.toNat) else 0 := by
  have hf := (h.2.2.2.2.2.2.2 c c0 c1).2.2.1
  have key : ∀ k, 0 ≤ k → k < 6 → jt_part t c n (8 + 6 * m + k) = t (8 + 6 * m + k) + if m < n ∧ k = t (44 + c) then jt_by t c m (jt_y t c m.toNat) else 0 := by
    intro k k0 k1
    unfold jt_part
    have e1 : (8 + 6 * m + k - 8) % 6 = k := by omega
    have e2 : (8 + 6 * m + k - 8) / 6 = m := by omega
    rw [e1, e2]
    by_cases hm : m < n
    · by_cases hk : k = t (44 + c)
      · rw [if_pos ⟨by omega, by omega, hk⟩, if_pos ⟨hm, hk⟩]
      · rw [if_neg (fun q => hk q.2.2), if_neg (fun q => hk q.2)]; omega
    · rw [if_neg (fun q => hm (by omega)), if_neg (fun q => hm q.1)]; omega
  have k0 := key 0 (by omega) (by omega)
  rw [Int.add_zero] at k0
  unfold jt_lies
  rw [k0, key 1 (by omega) (by omega), key 2 (by omega) (by omega), key 3 (by omega) (by omega), key 4 (by omega) (by omega), key 5 (by omega) (by omega)]
  by_cases hm : m < n
  · rw [if_pos hm]
    simp only [hm, true_and]
    rcases (show t (44 + c) = 0 ∨ t (44 + c) = 1 ∨ t (44 + c) = 2 ∨ t (44 + c) = 3 ∨ t (44 + c) = 4 ∨ t (44 + c) = 5 by omega) with q | q | q | q | q | q <;> rw [q] <;> simp <;> omega
  · rw [if_neg hm]
    simp only [hm, false_and, if_false]
    omega
end
section
set_option maxRecDepth 10000 in
theorem mo_in {X : jm_X} {d : Nat} {Q : jv_P} {μ : jm_M} {v a b : Int} (k1 : a ≤ v ∧ v ≤ b → Q [.inl 1] μ) (k0 : ¬ (a ≤ v ∧ v ≤ b) → Q [.inl 0] μ) : cV X (d + 1) 135 [.inr (.inl v), .inr (.inl a), .inr (.inl b)] μ Q := by
  refine jv_enter (d := d + 0) jm_p_X10_in [some (.inr (.inl v)), none, some (.inr (.inl a)), none, some (.inr (.inl b)), none] rfl rfl rfl (Nat.le_of_ble_eq_true rfl) rfl rfl ?_
  refine jv_lload_n rfl rfl rfl ?_
  refine jv_lload_n rfl rfl rfl ?_
  refine jv_lcmp rfl rfl ?_
  refine jv_if_lt rfl rfl rfl (fun c3 => ?_) (fun c3 => ?_)
  · refine jv_iconst rfl rfl ?_
    refine jv_ireturn rfl (Or.inr ⟨rfl, by decide⟩) ?_
    exact k0 (by split at * <;> omega)
  · refine jv_lload_n rfl rfl rfl ?_
    refine jv_lload rfl rfl rfl ?_
    refine jv_lcmp rfl rfl ?_
    refine jv_if_gt rfl rfl rfl (fun c7 => ?_) (fun c7 => ?_)
    · refine jv_iconst rfl rfl ?_
      refine jv_ireturn rfl (Or.inr ⟨rfl, by decide⟩) ?_
      exact k0 (by split at * <;> omega)
    · refine jv_iconst rfl rfl ?_
      refine jv_goto rfl rfl ?_
      refine jv_ireturn rfl (Or.inr ⟨rfl, by decide⟩) ?_
      exact k1 (by split at * <;> omega)
set_option maxRecDepth 10000 in
theorem mo_isRow {X : jm_X} {d : Nat} {Q : jv_P} {μ : jm_M} {r : Int} (k1 : 0 ≤ r ∧ r ≤ 7 → Q [.inl 1] μ) (k0 : ¬ (0 ≤ r ∧ r ≤ 7) → Q [.inl 0] μ) : cV X (d + 2) 140 [.inl r] μ Q := by
  refine jv_enter (d := d + 1) jm_p_X10_isRow [some (.inl r)] rfl rfl rfl (Nat.le_of_ble_eq_true rfl) rfl rfl ?_
  refine jv_iload_n rfl rfl rfl ?_
  refine jv_i2l rfl rfl ?_
  refine jv_lconst rfl rfl ?_
  refine jv_ldc2_w rfl rfl ?_
  refine jv_callS3 rfl rfl rfl (Nat.le_of_ble_eq_true rfl) (mo_in (fun b4 => ?_) (fun b4 => ?_))
  · show jV _ _ jm_p_X10_isRow _ 5 [some (.inl r)] [.inl 1] μ
    refine jv_ireturn rfl (Or.inr ⟨rfl, by decide⟩) ?_
    exact k1 (by omega)
  · show jV _ _ jm_p_X10_isRow _ 5 [some (.inl r)] [.inl 0] μ
    refine jv_ireturn rfl (Or.inr ⟨rfl, by decide⟩) ?_
    exact k0 (by omega)
set_option maxRecDepth 10000 in
theorem mo_find {X : jm_X} {d : Nat} {Q : jv_P} {μ : jm_M} {w : Int} (hw : 0 ≤ w ∧ w ≤ 9) (k : ∀ μ2, μ2 = jm_uc μ 94 (jm_u1 (μ 94) 10 w) → Q [.inl (-1000010 - w)] μ2) : cV X (d + 1) 138 [.inr (.inr 94), .inl w] μ Q := by
  refine jv_enter (d := d + 0) jm_p_X10_find [some (.inr (.inr 94)), some (.inl w)] rfl rfl rfl (Nat.le_of_ble_eq_true rfl) rfl rfl ?_
  refine jv_aload_n rfl rfl rfl (by decide) ?_
  refine jv_iload_n rfl rfl rfl ?_
  refine jv_puti rfl rfl rfl ⟨by decide, rfl⟩ (Or.inl rfl) (fun μ2 eμ2 => ?_)
  refine jv_ldc rfl rfl ?_
  refine jv_iload_n rfl rfl rfl ?_
  refine jv_isub rfl rfl ⟨by omega, by omega⟩ ?_
  refine jv_ireturn rfl (Or.inl rfl) ?_
  exact k _ eμ2
set_option maxRecDepth 10000 in
theorem mo_well {X : jm_X} {d : Nat} {Q : jv_P} {μ : jm_M} {w : Int} (k : ∀ μ2, μ2 = jm_uc μ 94 (jm_u1 (μ 94) 10 0) → Q [.inl w] μ2) : cV X (d + 1) 139 [.inr (.inr 94), .inl w] μ Q := by
  refine jv_enter (d := d + 0) jm_p_X10_well [some (.inr (.inr 94)), some (.inl w)] rfl rfl rfl (Nat.le_of_ble_eq_true rfl) rfl rfl ?_
  refine jv_aload_n rfl rfl rfl (by decide) ?_
  refine jv_iconst rfl rfl ?_
  refine jv_puti rfl rfl rfl ⟨by decide, rfl⟩ (Or.inl rfl) (fun μ2 eμ2 => ?_)
  refine jv_iload_n rfl rfl rfl ?_
  refine jv_ireturn rfl (Or.inl rfl) ?_
  exact k _ eμ2
set_option maxRecDepth 10000 in
theorem mo_narrow {X : jm_X} {d : Nat} {Q : jv_P} {μ : jm_M} {v l : Int} (k : Q [.inl (if l = 0 then v.bmod 256 else if l = 1 then v.bmod 65536 else v)] μ) : cV X (d + 1) 142 [.inl v, .inl l] μ Q := by
  refine jv_enter (d := d + 0) jm_p_X10_narrow [some (.inl v), some (.inl l)] rfl rfl rfl (Nat.le_of_ble_eq_true rfl) rfl rfl ?_
  refine jv_iload_n rfl rfl rfl ?_
  refine jv_if_ne rfl rfl rfl (fun c1 => ?_) (fun c1 => ?_)
  · refine jv_iload_n rfl rfl rfl ?_
    refine jv_iconst rfl rfl ?_
    refine jv_icmp_ne rfl rfl rfl (fun c7 => ?_) (fun c7 => ?_)
    · refine jv_iload_n rfl rfl rfl ?_
      refine jv_ireturn rfl (Or.inl rfl) ?_
      simp_all
    · refine jv_iload_n rfl rfl rfl ?_
      refine jv_i2s rfl rfl ?_
      refine jv_goto rfl rfl ?_
      refine jv_ireturn rfl (Or.inl rfl) ?_
      simp_all
  · refine jv_iload_n rfl rfl rfl ?_
    refine jv_i2b rfl rfl ?_
    refine jv_goto rfl rfl ?_
    refine jv_ireturn rfl (Or.inl rfl) ?_
    simp_all
end
section
set_option maxRecDepth 10000 in
theorem mo_liesOn {X : jm_X} {d : Nat} {Q : jv_P} {μ : jm_M} {base m : Int} (hb : 0 ≤ base ∧ base ≤ 1674) (hm : 0 ≤ m ∧ m < 4) (hw : jt_wf (fun k => μ 95 (base + k))) (k : Q [.inl (jt_lies (fun k => μ 95 (base + k)) m)] μ) : cV X (d + 1) 166 [.inr (.inr 94), .inl base, .inl m] μ Q := by
  have hw2 := hw
  unfold jt_wf at hw2
  simp only [← Int.add_assoc] at hw2
  obtain ⟨w0, w1, w2, w3, w4, w6, w7, w8⟩ := hw2
  have hv : ∀ k, 0 ≤ k → k < 6 → 0 ≤ μ 95 (base + 8 + 6 * m + k) ∧ μ 95 (base + 8 + 6 * m + k) ≤ 60 := by
    intro k k0 k1
    have := w6 (8 + 6 * m + k) (by omega) (by omega)
    simp only [← Int.add_assoc] at this
    exact this
  have v0 := hv 0 (by decide) (by decide)
  have v1 := hv 1 (by decide) (by decide)
  have v2 := hv 2 (by decide) (by decide)
  have v3 := hv 3 (by decide) (by decide)
  have v4 := hv 4 (by decide) (by decide)
  have v5 := hv 5 (by decide) (by decide)
  refine jv_enter (d := d + 0) jm_p_X10_liesOn [some (.inr (.inr 94)), some (.inl base), some (.inl m), none, none] rfl rfl rfl (Nat.le_of_ble_eq_true rfl) rfl rfl ?_
  refine jv_iconst rfl rfl ?_
  refine jv_istore_nK (L2 := [some (.inr (.inr 94)), some (.inl base), some (.inl m), some (.inl 0), none]) rfl rfl rfl ?_
  refine jv_iconst rfl rfl ?_
  refine jv_istoreK (L2 := [some (.inr (.inr 94)), some (.inl base), some (.inl m), some (.inl 0), some (.inl 0)]) rfl rfl rfl ?_
  refine jv_iload rfl rfl rfl ?_
  refine jv_bipush rfl rfl ?_
  refine jv_icmp_geF rfl rfl (by decide) ?_
  refine jv_iload_n rfl rfl rfl ?_
  refine jv_aload_n rfl rfl rfl (by decide) ?_
  refine jv_getr (w := 95) rfl rfl rfl ⟨by decide, rfl⟩ rfl rfl ?_
  refine jv_iload_n rfl rfl rfl ?_
  refine jv_bipush rfl rfl ?_
  refine jv_iadd rfl rfl ⟨by omega, by omega⟩ ?_
  refine jv_bipush rfl rfl ?_
  refine jv_iload_n rfl rfl rfl ?_
  refine jv_imul rfl rfl ⟨by omega, by omega⟩ ?_
  refine jv_iadd rfl rfl ⟨by omega, by omega⟩ ?_
  refine jv_iload rfl rfl rfl ?_
  refine jv_iadd rfl rfl ⟨by omega, by omega⟩ ?_
  refine jv_iaload rfl rfl (by decide) rfl ⟨by omega, by omega⟩ ?_
  refine jv_iadd rfl rfl ⟨by omega, by omega⟩ ?_
  refine jv_istore_n (fun x => [some (.inr (.inr 94)), some (.inl base), some (.inl m), some (.inl x), some (.inl 0)]) rfl rfl (fun _ => rfl) (fun x3_21 ex3_21 => ?_)
  refine jv_iincK (L2 := [some (.inr (.inr 94)), some (.inl base), some (.inl m), some (.inl x3_21), some (.inl 1)]) rfl rfl rfl (by decide) rfl ?_
  refine jv_goto rfl rfl ?_
  refine jv_iload rfl rfl rfl ?_
  refine jv_bipush rfl rfl ?_
  refine jv_icmp_geF rfl rfl (by decide) ?_
  refine jv_iload_n rfl rfl rfl ?_
  refine jv_aload_n rfl rfl rfl (by decide) ?_
  refine jv_getr (w := 95) rfl rfl rfl ⟨by decide, rfl⟩ rfl rfl ?_
  refine jv_iload_n rfl rfl rfl ?_
  refine jv_bipush rfl rfl ?_
  refine jv_iadd rfl rfl ⟨by omega, by omega⟩ ?_
  refine jv_bipush rfl rfl ?_
  refine jv_iload_n rfl rfl rfl ?_
  refine jv_imul rfl rfl ⟨by omega, by omega⟩ ?_
  refine jv_iadd rfl rfl ⟨by omega, by omega⟩ ?_
  refine jv_iload rfl rfl rfl ?_
  refine jv_iadd rfl rfl ⟨by omega, by omega⟩ ?_
  refine jv_iaload rfl rfl (by decide) rfl ⟨by omega, by omega⟩ ?_
  refine jv_iadd rfl rfl ⟨by omega, by omega⟩ ?_
  refine jv_istore_n (fun x => [some (.inr (.inr 94)), some (.inl base), some (.inl m), some (.inl x), some (.inl 1)]) rfl rfl (fun _ => rfl) (fun x3_21_1 ex3_21_1 => ?_)
  refine jv_iincK (L2 := [some (.inr (.inr 94)), some (.inl base), some (.inl m), some (.inl x3_21_1), some (.inl 2)]) rfl rfl rfl (by decide) rfl ?_
  refine jv_goto rfl rfl ?_
  refine jv_iload rfl rfl rfl ?_
  refine jv_bipush rfl rfl ?_
  refine jv_icmp_geF rfl rfl (by decide) ?_
  refine jv_iload_n rfl rfl rfl ?_
  refine jv_aload_n rfl rfl rfl (by decide) ?_
  refine jv_getr (w := 95) rfl rfl rfl ⟨by decide, rfl⟩ rfl rfl ?_
  refine jv_iload_n rfl rfl rfl ?_
  refine jv_bipush rfl rfl ?_
  refine jv_iadd rfl rfl ⟨by omega, by omega⟩ ?_
  refine jv_bipush rfl rfl ?_
  refine jv_iload_n rfl rfl rfl ?_
  refine jv_imul rfl rfl ⟨by omega, by omega⟩ ?_
  refine jv_iadd rfl rfl ⟨by omega, by omega⟩ ?_
  refine jv_iload rfl rfl rfl ?_
  refine jv_iadd rfl rfl ⟨by omega, by omega⟩ ?_
  refine jv_iaload rfl rfl (by decide) rfl ⟨by omega, by omega⟩ ?_
  refine jv_iadd rfl rfl ⟨by omega, by omega⟩ ?_
  refine jv_istore_n (fun x => [some (.inr (.inr 94)), some (.inl base), some (.inl m), some (.inl x), some (.inl 2)]) rfl rfl (fun _ => rfl) (fun x3_21_2 ex3_21_2 => ?_)
  refine jv_iincK (L2 := [some (.inr (.inr 94)), some (.inl base), some (.inl m), some (.inl x3_21_2), some (.inl 3)]) rfl rfl rfl (by decide) rfl ?_
  refine jv_goto rfl rfl ?_
  refine jv_iload rfl rfl rfl ?_
  refine jv_bipush rfl rfl ?_
  refine jv_icmp_geF rfl rfl (by decide) ?_
  refine jv_iload_n rfl rfl rfl ?_
  refine jv_aload_n rfl rfl rfl (by decide) ?_
  refine jv_getr (w := 95) rfl rfl rfl ⟨by decide, rfl⟩ rfl rfl ?_
  refine jv_iload_n rfl rfl rfl ?_
  refine jv_bipush rfl rfl ?_
  refine jv_iadd rfl rfl ⟨by omega, by omega⟩ ?_
  refine jv_bipush rfl rfl ?_
  refine jv_iload_n rfl rfl rfl ?_
  refine jv_imul rfl rfl ⟨by omega, by omega⟩ ?_
  refine jv_iadd rfl rfl ⟨by omega, by omega⟩ ?_
  refine jv_iload rfl rfl rfl ?_
  refine jv_iadd rfl rfl ⟨by omega, by omega⟩ ?_
  refine jv_iaload rfl rfl (by decide) rfl ⟨by omega, by omega⟩ ?_
  refine jv_iadd rfl rfl ⟨by omega, by omega⟩ ?_
  refine jv_istore_n (fun x => [some (.inr (.inr 94)), some (.inl base), some (.inl m), some (.inl x), some (.inl 3)]) rfl rfl (fun _ => rfl) (fun x3_21_3 ex3_21_3 => ?_)
  refine jv_iincK (L2 := [some (.inr (.inr 94)), some (.inl base), some (.inl m), some (.inl x3_21_3), some (.inl 4)]) rfl rfl rfl (by decide) rfl ?_
  refine jv_goto rfl rfl ?_
  refine jv_iload rfl rfl rfl ?_
  refine jv_bipush rfl rfl ?_
  refine jv_icmp_geF rfl rfl (by decide) ?_
  refine jv_iload_n rfl rfl rfl ?_
  refine jv_aload_n rfl rfl rfl (by decide) ?_
  refine jv_getr (w := 95) rfl rfl rfl ⟨by decide, rfl⟩ rfl rfl ?_
  refine jv_iload_n rfl rfl rfl ?_
  refine jv_bipush rfl rfl ?_
  refine jv_iadd rfl rfl ⟨by omega, by omega⟩ ?_
  refine jv_bipush rfl rfl ?_
  refine jv_iload_n rfl rfl rfl ?_
  refine jv_imul rfl rfl ⟨by omega, by omega⟩ ?_
  refine jv_iadd rfl rfl ⟨by omega, by omega⟩ ?_
  refine jv_iload rfl rfl rfl ?_
  refine jv_iadd rfl rfl ⟨by omega, by omega⟩ ?_
  refine jv_iaload rfl rfl (by decide) rfl ⟨by omega, by omega⟩ ?_
  refine jv_iadd rfl rfl ⟨by omega, by omega⟩ ?_
  refine jv_istore_n (fun x => [some (.inr (.inr 94)), some (.inl base), some (.inl m), some (.inl x), some (.inl 4)]) rfl rfl (fun _ => rfl) (fun x3_21_4 ex3_21_4 => ?_)
  refine jv_iincK (L2 := [some (.inr (.inr 94)), some (.inl base), some (.inl m), some (.inl x3_21_4), some (.inl 5)]) rfl rfl rfl (by decide) rfl ?_
  refine jv_goto rfl rfl ?_
  refine jv_iload rfl rfl rfl ?_
  refine jv_bipush rfl rfl ?_
  refine jv_icmp_geF rfl rfl (by decide) ?_
  refine jv_iload_n rfl rfl rfl ?_
  refine jv_aload_n rfl rfl rfl (by decide) ?_
  refine jv_getr (w := 95) rfl rfl rfl ⟨by decide, rfl⟩ rfl rfl ?_
  refine jv_iload_n rfl rfl rfl ?_
  refine jv_bipush rfl rfl ?_
  refine jv_iadd rfl rfl ⟨by omega, by omega⟩ ?_
  refine jv_bipush rfl rfl ?_
  refine jv_iload_n rfl rfl rfl ?_
  refine jv_imul rfl rfl ⟨by omega, by omega⟩ ?_
  refine jv_iadd rfl rfl ⟨by omega, by omega⟩ ?_
  refine jv_iload rfl rfl rfl ?_
  refine jv_iadd rfl rfl ⟨by omega, by omega⟩ ?_
  refine jv_iaload rfl rfl (by decide) rfl ⟨by omega, by omega⟩ ?_
  refine jv_iadd rfl rfl ⟨by omega, by omega⟩ ?_
  refine jv_istore_n (fun x => [some (.inr (.inr 94)), some (.inl base), some (.inl m), some (.inl x), some (.inl 5)]) rfl rfl (fun _ => rfl) (fun x3_21_5 ex3_21_5 => ?_)
  refine jv_iincK (L2 := [some (.inr (.inr 94)), some (.inl base), some (.inl m), some (.inl x3_21_5), some (.inl 6)]) rfl rfl rfl (by decide) rfl ?_
  refine jv_goto rfl rfl ?_
  refine jv_iload rfl rfl rfl ?_
  refine jv_bipush rfl rfl ?_
  refine jv_icmp_geT rfl rfl (by decide) ?_
  refine jv_iload_n rfl rfl rfl ?_
  refine jv_ireturn rfl (Or.inl rfl) ?_
  have e : x3_21_5 = jt_lies (fun k => μ 95 (base + k)) m := by
    unfold jt_lies
    simp only [← Int.add_assoc]
    rw [Int.add_zero] at v0
    simp only [Int.add_zero] at *
    omega
  rw [e]
  exact k
set_option maxRecDepth 10000 in
theorem mo_leaves65 {X : jm_X} {d : Nat} {Q : jv_P} {μ : jm_M} {base c m yet mn x6 : Int} (hb : 0 ≤ base ∧ base ≤ 1674) (hc : 0 ≤ c ∧ c < 6) (hm : 0 ≤ m ∧ m < 4) (hy : 0 ≤ yet ∧ yet ≤ 60) (hw : jt_wf (fun k => μ 95 (base + k))) (h6 : 0 ≤ x6 ∧ x6 ≤ 60) (k : Q [.inl (min (min x6 yet) (μ 95 (base + 2) - jt_lies (fun k => μ 95 (base + k)) m))] μ) : jV X (d + 1) jm_p_X10_leavesOn Q 65 [some (.inr (.inr 94)), some (.inl base), some (.inl c), some (.inl m), some (.inl yet), some (.inl mn), some (.inl x6), none] [] μ := by
  have hw2 := hw
  unfold jt_wf at hw2
  simp only [← Int.add_assoc] at hw2
  obtain ⟨w0, w1, w2, w3, w4, w6, w7, w8⟩ := hw2
  have hl := jt_lies_r hw hm.1 hm.2
  refine jv_aload_n rfl rfl rfl (by decide) ?_
  refine jv_getr (w := 95) rfl rfl rfl ⟨by decide, rfl⟩ rfl rfl ?_
  refine jv_iload_n rfl rfl rfl ?_
  refine jv_iconst rfl rfl ?_
  refine jv_iadd rfl rfl ⟨by omega, by omega⟩ ?_
  refine jv_iaload rfl rfl (by decide) rfl ⟨by omega, by omega⟩ ?_
  refine jv_aload_n rfl rfl rfl (by decide) ?_
  refine jv_iload_n rfl rfl rfl ?_
  refine jv_iload_n rfl rfl rfl ?_
  refine jv_callV2 rfl rfl rfl rfl ⟨by decide, rfl⟩ (Nat.le_of_ble_eq_true rfl) (mo_liesOn (by omega) (by omega) (by assumption) ?_)
  show jV _ _ jm_p_X10_leavesOn _ 75 [some (.inr (.inr 94)), some (.inl base), some (.inl c), some (.inl m), some (.inl yet), some (.inl mn), some (.inl x6), none] [.inl (jt_lies (fun k => μ 95 (base + k)) m), .inl (μ 95 (base + 2))] μ
  refine jv_isub rfl rfl ⟨by omega, by omega⟩ ?_
  refine jv_istore (fun x => [some (.inr (.inr 94)), some (.inl base), some (.inl c), some (.inl m), some (.inl yet), some (.inl mn), some (.inl x6), some (.inl x)]) rfl rfl (fun _ => rfl) (fun x7_76 ex7_76 => ?_)
  refine jv_iload rfl rfl rfl ?_
  refine jv_iload rfl rfl rfl ?_
  refine jv_icmp_ge rfl rfl rfl (fun c79 => ?_) (fun c79 => ?_)
  · refine jv_iload rfl rfl rfl ?_
    refine jv_istore (fun x => [some (.inr (.inr 94)), some (.inl base), some (.inl c), some (.inl m), some (.inl yet), some (.inl mn), some (.inl x), some (.inl x7_76)]) rfl rfl (fun _ => rfl) (fun x6_83 ex6_83 => ?_)
    refine jv_iload rfl rfl rfl ?_
    refine jv_iload rfl rfl rfl ?_
    refine jv_icmp_ge rfl rfl rfl (fun c86 => ?_) (fun c86 => ?_)
    · refine jv_iload rfl rfl rfl ?_
      refine jv_ireturn rfl (Or.inl rfl) ?_
      have e : x7_76 = min (min x6 yet) (μ 95 (base + 2) - jt_lies (fun k => μ 95 (base + k)) m) := by omega
      rw [e]
      exact k
    · refine jv_iload rfl rfl rfl ?_
      refine jv_goto rfl rfl ?_
      refine jv_ireturn rfl (Or.inl rfl) ?_
      have e : x6_83 = min (min x6 yet) (μ 95 (base + 2) - jt_lies (fun k => μ 95 (base + k)) m) := by omega
      rw [e]
      exact k
  · refine jv_iload rfl rfl rfl ?_
    refine jv_goto rfl rfl ?_
    refine jv_istore (fun x => [some (.inr (.inr 94)), some (.inl base), some (.inl c), some (.inl m), some (.inl yet), some (.inl mn), some (.inl x), some (.inl x7_76)]) rfl rfl (fun _ => rfl) (fun x6_83_1 ex6_83_1 => ?_)
    refine jv_iload rfl rfl rfl ?_
    refine jv_iload rfl rfl rfl ?_
    refine jv_icmp_ge rfl rfl rfl (fun c86_1 => ?_) (fun c86_1 => ?_)
    · refine jv_iload rfl rfl rfl ?_
      refine jv_ireturn rfl (Or.inl rfl) ?_
      have e : x7_76 = min (min x6 yet) (μ 95 (base + 2) - jt_lies (fun k => μ 95 (base + k)) m) := by omega
      rw [e]
      exact k
    · refine jv_iload rfl rfl rfl ?_
      refine jv_goto rfl rfl ?_
      refine jv_ireturn rfl (Or.inl rfl) ?_
      have e : x6_83_1 = min (min x6 yet) (μ 95 (base + 2) - jt_lies (fun k => μ 95 (base + k)) m) := by omega
      rw [e]
      exact k
set_option maxRecDepth 10000 in
theorem mo_leavesOn {X : jm_X} {d : Nat} {Q : jv_P} {μ : jm_M} {base c m yet : Int} (hb : 0 ≤ base ∧ base ≤ 1674) (hc : 0 ≤ c ∧ c < 6) (hm : 0 ≤ m ∧ m < 4) (hy : 0 ≤ yet ∧ yet ≤ 60) (hw : jt_wf (fun k => μ 95 (base + k))) (k : Q [.inl (jt_by (fun k => μ 95 (base + k)) c m yet)] μ) : cV X (d + 2) 168 [.inr (.inr 94), .inl base, .inl c, .inl m, .inl yet] μ Q := by
  have hw2 := hw
  unfold jt_wf at hw2
  simp only [← Int.add_assoc] at hw2
  obtain ⟨w0, w1, w2, w3, w4, w6, w7, w8⟩ := hw2
  have hl := jt_lies_r hw hm.1 hm.2
  have w8c := w8 c hc.1 hc.2
  refine jv_enter (d := d + 1) jm_p_X10_leavesOn [some (.inr (.inr 94)), some (.inl base), some (.inl c), some (.inl m), some (.inl yet), none, none, none] rfl rfl rfl (Nat.le_of_ble_eq_true rfl) rfl rfl ?_
  refine jv_aload_n rfl rfl rfl (by decide) ?_
  refine jv_getr (w := 95) rfl rfl rfl ⟨by decide, rfl⟩ rfl rfl ?_
  refine jv_iload_n rfl rfl rfl ?_
  refine jv_bipush rfl rfl ?_
  refine jv_iadd rfl rfl ⟨by omega, by omega⟩ ?_
  refine jv_iload_n rfl rfl rfl ?_
  refine jv_iadd rfl rfl ⟨by omega, by omega⟩ ?_
  refine jv_iaload rfl rfl (by decide) rfl ⟨by omega, by omega⟩ ?_
  refine jv_istore (fun x => [some (.inr (.inr 94)), some (.inl base), some (.inl c), some (.inl m), some (.inl yet), some (.inl x), none, none]) rfl rfl (fun _ => rfl) (fun x5_8 ex5_8 => ?_)
  refine jv_iload rfl rfl rfl ?_
  refine jv_istore (fun x => [some (.inr (.inr 94)), some (.inl base), some (.inl c), some (.inl m), some (.inl yet), some (.inl x5_8), some (.inl x), none]) rfl rfl (fun _ => rfl) (fun x6_10 ex6_10 => ?_)
  refine jv_aload_n rfl rfl rfl (by decide) ?_
  refine jv_getr (w := 95) rfl rfl rfl ⟨by decide, rfl⟩ rfl rfl ?_
  refine jv_iload_n rfl rfl rfl ?_
  refine jv_bipush rfl rfl ?_
  refine jv_iadd rfl rfl ⟨by omega, by omega⟩ ?_
  refine jv_iload_n rfl rfl rfl ?_
  refine jv_iadd rfl rfl ⟨by omega, by omega⟩ ?_
  refine jv_iaload rfl rfl (by decide) rfl ⟨by omega, by omega⟩ ?_
  refine jv_tsw rfl (And.intro (fun s19 => ?_) (fun ns19_3 => (And.intro (fun s19 => ?_) (fun ns19_2 => (And.intro (fun s19 => ?_) (fun ns19_1 => (And.intro (fun s19 => ?_) (fun ns19 => (jm_sw_1 ?_)))))))))
  · refine jv_aload_n rfl rfl rfl (by decide) ?_
    refine jv_getr (w := 95) rfl rfl rfl ⟨by decide, rfl⟩ rfl rfl ?_
    refine jv_iload_n rfl rfl rfl ?_
    refine jv_iconst rfl rfl ?_
    refine jv_iadd rfl rfl ⟨by omega, by omega⟩ ?_
    refine jv_iload_n rfl rfl rfl ?_
    refine jv_iadd rfl rfl ⟨by omega, by omega⟩ ?_
    refine jv_iaload rfl rfl (by decide) rfl ⟨by omega, by omega⟩ ?_
    refine jv_aload_n rfl rfl rfl (by decide) ?_
    refine jv_getr (w := 95) rfl rfl rfl ⟨by decide, rfl⟩ rfl rfl ?_
    refine jv_iload_n rfl rfl rfl ?_
    refine jv_bipush rfl rfl ?_
    refine jv_iadd rfl rfl ⟨by omega, by omega⟩ ?_
    refine jv_iload_n rfl rfl rfl ?_
    refine jv_iadd rfl rfl ⟨by omega, by omega⟩ ?_
    refine jv_iaload rfl rfl (by decide) rfl ⟨by omega, by omega⟩ ?_
    refine jv_icmp_ne rfl rfl rfl (fun c36 => ?_) (fun c36 => ?_)
    · refine jv_iload rfl rfl rfl ?_
      refine jv_istore (fun x => [some (.inr (.inr 94)), some (.inl base), some (.inl c), some (.inl m), some (.inl yet), some (.inl x5_8), some (.inl x), none]) rfl rfl (fun _ => rfl) (fun x6_42 ex6_42 => ?_)
      refine jv_goto rfl rfl ?_
      refine mo_leaves65 (c := c) hb hc hm hy hw (by omega) ?_
      have e : min (min x6_42 yet) (μ 95 (base + 2) - jt_lies (fun k => μ 95 (base + k)) m) = jt_by (fun k => μ 95 (base + k)) c m yet := by
        unfold jt_by jt_wip
        simp only [← Int.add_assoc]
        (repeat' split) <;> omega
      rw [e]
      exact k
    · refine jv_iconst rfl rfl ?_
      refine jv_iload rfl rfl rfl ?_
      refine jv_imul rfl rfl ⟨by omega, by omega⟩ ?_
      refine jv_goto rfl rfl ?_
      refine jv_istore (fun x => [some (.inr (.inr 94)), some (.inl base), some (.inl c), some (.inl m), some (.inl yet), some (.inl x5_8), some (.inl x), none]) rfl rfl (fun _ => rfl) (fun x6_42_1 ex6_42_1 => ?_)
      refine jv_goto rfl rfl ?_
      refine mo_leaves65 (c := c) hb hc hm hy hw (by omega) ?_
      have e : min (min x6_42_1 yet) (μ 95 (base + 2) - jt_lies (fun k => μ 95 (base + k)) m) = jt_by (fun k => μ 95 (base + k)) c m yet := by
        unfold jt_by jt_wip
        simp only [← Int.add_assoc]
        (repeat' split) <;> omega
      rw [e]
      exact k
  · refine jv_iload_n rfl rfl rfl ?_
    refine jv_if_ne rfl rfl rfl (fun c45 => ?_) (fun c45 => ?_)
    · refine jv_iload rfl rfl rfl ?_
      refine jv_istore (fun x => [some (.inr (.inr 94)), some (.inl base), some (.inl c), some (.inl m), some (.inl yet), some (.inl x5_8), some (.inl x), none]) rfl rfl (fun _ => rfl) (fun x6_49 ex6_49 => ?_)
      refine jv_goto rfl rfl ?_
      refine mo_leaves65 (c := c) hb hc hm hy hw (by omega) ?_
      have e : min (min x6_49 yet) (μ 95 (base + 2) - jt_lies (fun k => μ 95 (base + k)) m) = jt_by (fun k => μ 95 (base + k)) c m yet := by
        unfold jt_by jt_wip
        simp only [← Int.add_assoc]
        (repeat' split) <;> omega
      rw [e]
      exact k
    · refine jv_iconst rfl rfl ?_
      refine jv_goto rfl rfl ?_
      refine jv_istoreK (L2 := [some (.inr (.inr 94)), some (.inl base), some (.inl c), some (.inl m), some (.inl yet), some (.inl x5_8), some (.inl 0), none]) rfl rfl rfl ?_
      refine jv_goto rfl rfl ?_
      refine mo_leaves65 (c := c) hb hc hm hy hw (by omega) ?_
      have e : min (min 0 yet) (μ 95 (base + 2) - jt_lies (fun k => μ 95 (base + k)) m) = jt_by (fun k => μ 95 (base + k)) c m yet := by
        unfold jt_by jt_wip
        simp only [← Int.add_assoc]
        (repeat' split) <;> omega
      rw [e]
      exact k
  · refine jv_iload_n rfl rfl rfl ?_
    refine jv_if_ne rfl rfl rfl (fun c52 => ?_) (fun c52 => ?_)
    · refine jv_iconst rfl rfl ?_
      refine jv_istoreK (L2 := [some (.inr (.inr 94)), some (.inl base), some (.inl c), some (.inl m), some (.inl yet), some (.inl x5_8), some (.inl 0), none]) rfl rfl rfl ?_
      refine jv_goto rfl rfl ?_
      refine mo_leaves65 (c := c) hb hc hm hy hw (by omega) ?_
      have e : min (min 0 yet) (μ 95 (base + 2) - jt_lies (fun k => μ 95 (base + k)) m) = jt_by (fun k => μ 95 (base + k)) c m yet := by
        unfold jt_by jt_wip
        simp only [← Int.add_assoc]
        (repeat' split) <;> omega
      rw [e]
      exact k
    · refine jv_iload rfl rfl rfl ?_
      refine jv_iconst rfl rfl ?_
      refine jv_idiv rfl rfl ⟨by omega, by omega⟩ ?_
      refine jv_goto rfl rfl ?_
      refine jv_istore (fun x => [some (.inr (.inr 94)), some (.inl base), some (.inl c), some (.inl m), some (.inl yet), some (.inl x5_8), some (.inl x), none]) rfl rfl (fun _ => rfl) (fun x6_58 ex6_58 => ?_)
      refine jv_goto rfl rfl ?_
      refine mo_leaves65 (c := c) hb hc hm hy hw (by omega) ?_
      have e : min (min x6_58 yet) (μ 95 (base + 2) - jt_lies (fun k => μ 95 (base + k)) m) = jt_by (fun k => μ 95 (base + k)) c m yet := by
        unfold jt_by jt_wip
        simp only [← Int.add_assoc]
        (repeat' split) <;> omega
      rw [e]
      exact k
  · refine jv_iload rfl rfl rfl ?_
    refine jv_iconst rfl rfl ?_
    refine jv_idiv rfl rfl ⟨by omega, by omega⟩ ?_
    refine jv_istore (fun x => [some (.inr (.inr 94)), some (.inl base), some (.inl c), some (.inl m), some (.inl yet), some (.inl x5_8), some (.inl x), none]) rfl rfl (fun _ => rfl) (fun x6_63 ex6_63 => ?_)
    refine jv_goto rfl rfl ?_
    refine mo_leaves65 (c := c) hb hc hm hy hw (by omega) ?_
    have e : min (min x6_63 yet) (μ 95 (base + 2) - jt_lies (fun k => μ 95 (base + k)) m) = jt_by (fun k => μ 95 (base + k)) c m yet := by
      unfold jt_by jt_wip
      simp only [← Int.add_assoc]
      (repeat' split) <;> omega
    rw [e]
    exact k
  · show jV _ _ jm_p_X10_leavesOn _ 65 [some (.inr (.inr 94)), some (.inl base), some (.inl c), some (.inl m), some (.inl yet), some (.inl x5_8), some (.inl x6_10), none] [] μ
    refine mo_leaves65 (c := c) hb hc hm hy hw (by omega) ?_
    have e : min (min x6_10 yet) (μ 95 (base + 2) - jt_lies (fun k => μ 95 (base + k)) m) = jt_by (fun k => μ 95 (base + k)) c m yet := by
      unfold jt_by jt_wip
      simp only [← Int.add_assoc]
      (repeat' split) <;> omega
    rw [e]
    exact k
/-- the town at a comes to b -/
def jt_cp (f : Int → Int) (a b n : Int) : Int → Int := fun j => if b ≤ j ∧ j < b + n then f (a + (j - b)) else f j
set_option maxRecDepth 10000 in
theorem mo_copyTown_l {X : jm_X} {d : Nat} {Q : jv_P} {a b : Int} (ha : 0 ≤ a ∧ a ≤ 1674) (hb : 0 ≤ b ∧ b ≤ 1674) (hab : a + 62 ≤ b ∨ b + 62 ≤ a ∨ a = b) {μ0 : jm_M} (k : Q [] (jm_uc μ0 95 (jt_cp (μ0 95) a b 62))) : ∀ (n : Nat) (x : Int) (μ : jm_M), 0 ≤ x → x ≤ 62 → 62 - x ≤ n → μ = jm_uc μ0 95 (jt_cp (μ0 95) a b x) →
    jV X d jm_p_X10_copyTown Q 2 [some (.inr (.inr 94)), some (.inl a), some (.inl b), some (.inl x)] [] μ := by
  intro n
  induction n with
  | zero =>
    intro x μ x0 x1 xn hμ
    have hx : x = 62 := by omega
    subst hx hμ
    refine jv_iload_n rfl rfl rfl ?_
    refine jv_bipush rfl rfl ?_
    refine jv_icmp_geT rfl rfl (by decide) ?_
    refine jv_return rfl ?_
    exact k
  | succ n ih =>
    intro x μ x0 x1 xn hμ
    refine jv_iload_n rfl rfl rfl ?_
    refine jv_bipush rfl rfl ?_
    refine jv_icmp_ge rfl rfl rfl (fun c4 => ?_) (fun c4 => ?_)
    · refine jv_return rfl ?_
      have hx : x = 62 := by omega
      subst hx hμ
      exact k
    · refine jv_aload_n rfl rfl rfl (by decide) ?_
      refine jv_getr (w := 95) rfl rfl rfl ⟨by decide, rfl⟩ rfl rfl ?_
      refine jv_iload_n rfl rfl rfl ?_
      refine jv_iload_n rfl rfl rfl ?_
      refine jv_iadd rfl rfl ⟨by omega, by omega⟩ ?_
      refine jv_aload_n rfl rfl rfl (by decide) ?_
      refine jv_getr (w := 95) rfl rfl rfl ⟨by decide, rfl⟩ rfl rfl ?_
      refine jv_iload_n rfl rfl rfl ?_
      refine jv_iload_n rfl rfl rfl ?_
      refine jv_iadd rfl rfl ⟨by omega, by omega⟩ ?_
      refine jv_iaload rfl rfl (by decide) rfl ⟨by omega, by omega⟩ ?_
      refine jv_iastore rfl rfl rfl (by decide) ⟨by omega, by omega⟩ (fun μ16 eμ16 => ?_)
      refine jv_iinc (fun x => [some (.inr (.inr 94)), some (.inl a), some (.inl b), some (.inl x)]) rfl rfl rfl ⟨by omega, by omega⟩ (fun _ => rfl) (fun x3_17 ex3_17 => ?_)
      refine jv_goto rfl rfl ?_
      refine ih x3_17 μ16 (by omega) (by omega) (by omega) ?_
      subst ex3_17 eμ16 hμ
      rw [jm_uc2]
      congr 1
      funext j
      simp only [jm_u1, jm_uc_self, jt_cp]
      by_cases hj : j = b + x
      · subst hj
        rw [if_pos rfl, if_neg (show ¬ (b ≤ a + x ∧ a + x < b + x) by omega), if_pos (show b ≤ b + x ∧ b + x < b + (x + 1) by omega), show b + x - b = x by omega]
      · rw [if_neg hj]
        by_cases hr : b ≤ j ∧ j < b + x
        · rw [if_pos hr, if_pos (by omega)]
        · rw [if_neg hr, if_neg (by omega)]

set_option maxRecDepth 10000 in
theorem mo_copyTown {X : jm_X} {d : Nat} {Q : jv_P} {μ : jm_M} {a b : Int} (ha : 0 ≤ a ∧ a ≤ 1674) (hb : 0 ≤ b ∧ b ≤ 1674) (hab : a + 62 ≤ b ∨ b + 62 ≤ a ∨ a = b) (k : Q [] (jm_uc μ 95 (jt_cp (μ 95) a b 62))) : cV X (d + 1) 161 [.inr (.inr 94), .inl a, .inl b] μ Q := by
  refine jv_enter (d := d + 0) jm_p_X10_copyTown [some (.inr (.inr 94)), some (.inl a), some (.inl b), none] rfl rfl rfl (Nat.le_of_ble_eq_true rfl) rfl rfl ?_
  refine jv_iconst rfl rfl ?_
  refine jv_istore_nK (L2 := [some (.inr (.inr 94)), some (.inl a), some (.inl b), some (.inl 0)]) rfl rfl rfl ?_
  refine mo_copyTown_l ha hb hab (μ0 := μ) k 62 0 μ (by omega) (by omega) (by omega) ?_
  have e : jt_cp (μ 95) a b 0 = μ 95 := by
    funext j
    unfold jt_cp
    rw [if_neg (by omega)]
  rw [e, jm_uc_id]
end
section
/-- a town stands in the row at base -/
def jt_in (f : Int → Int) (base : Int) (u : Int → Int) : Int → Int := fun j => if base ≤ j ∧ j < base + 62 then u (j - base) else f j
theorem jt_in_at {f u : Int → Int} {base k : Int} (h0 : 0 ≤ k) (h1 : k < 62) : jt_in f base u (base + k) = u k := by
  unfold jt_in
  rw [if_pos (by omega), show base + k - base = k by omega]
theorem jt_in_self (f : Int → Int) (base : Int) : jt_in f base (fun k => f (base + k)) = f := by
  funext j
  unfold jt_in
  split
  · dsimp only
    rw [show base + (j - base) = j by omega]
  · rfl
theorem jt_in_congr {f u v : Int → Int} {base : Int} (h : ∀ k, 0 ≤ k → k < 62 → u k = v k) : jt_in f base u = jt_in f base v := by
  funext j
  unfold jt_in
  split
  · exact h _ (by omega) (by omega)
  · rfl
theorem jt_lies_congr {t u : Int → Int} (h : ∀ k, 0 ≤ k → k < 62 → t k = u k) {m : Int} (m0 : 0 ≤ m) (m1 : m < 4) : jt_lies t m = jt_lies u m := by
  unfold jt_lies
  rw [h (8 + 6 * m) (by omega) (by omega), h (8 + 6 * m + 1) (by omega) (by omega), h (8 + 6 * m + 2) (by omega) (by omega), h (8 + 6 * m + 3) (by omega) (by omega), h (8 + 6 * m + 4) (by omega) (by omega), h (8 + 6 * m + 5) (by omega) (by omega)]
theorem jt_wf_congr {t u : Int → Int} (h : ∀ k, 0 ≤ k → k < 62 → t k = u k) (hw : jt_wf t) : jt_wf u := by
  obtain ⟨w0, w1, w2, w3, w4, w6, w7, w8⟩ := hw
  refine ⟨by rw [← h 0 (by omega) (by omega)]; exact w0, by rw [← h 1 (by omega) (by omega)]; exact w1, by rw [← h 2 (by omega) (by omega)]; exact w2, by rw [← h 3 (by omega) (by omega)]; exact w3, fun m m0 m1 => by rw [← h (4 + m) (by omega) (by omega)]; exact w4 m m0 m1, fun j j0 j1 => by rw [← h j (by omega) (by omega)]; exact w6 j j0 j1, fun m m0 m1 => by rw [← h 2 (by omega) (by omega), ← jt_lies_congr h m0 m1]; exact w7 m m0 m1, fun c c0 c1 => ?_⟩
  rw [← h (32 + c) (by omega) (by omega), ← h (38 + c) (by omega) (by omega), ← h (44 + c) (by omega) (by omega), ← h (50 + c) (by omega) (by omega)]
  exact w8 c c0 c1
theorem jt_by_congr {t u : Int → Int} (h : ∀ k, 0 ≤ k → k < 62 → t k = u k) {c m y : Int} (c0 : 0 ≤ c) (c1 : c < 6) (m0 : 0 ≤ m) (m1 : m < 4) : jt_by t c m y = jt_by u c m y := by
  unfold jt_by
  rw [h (32 + c) (by omega) (by omega), h (44 + c) (by omega) (by omega), h (50 + c) (by omega) (by omega), h (4 + m) (by omega) (by omega), h 2 (by omega) (by omega), jt_lies_congr h m0 m1]
theorem jt_y_congr {t u : Int → Int} (h : ∀ k, 0 ≤ k → k < 62 → t k = u k) {c : Int} (c0 : 0 ≤ c) (c1 : c < 6) : ∀ n : Nat, n ≤ 4 → jt_y t c n = jt_y u c n
  | 0, _ => h _ (by omega) (by omega)
  | n + 1, hn => by
    simp only [jt_y]
    rw [jt_y_congr h c0 c1 n (by omega), jt_by_congr h c0 c1 (by omega) (by omega)]
theorem jt_part_out {t : Int → Int} {c n j : Int} (h : j < 8 ∨ 32 ≤ j) (hn : n ≤ 4) : jt_part t c n j = t j := by
  unfold jt_part
  rw [if_neg (by omega)]
theorem jt_part_congr {t u : Int → Int} (h : ∀ k, 0 ≤ k → k < 62 → t k = u k) {c n : Int} (c0 : 0 ≤ c) (c1 : c < 6) (n4 : n ≤ 4) {j : Int} (j0 : 0 ≤ j) (j1 : j < 62) : jt_part t c n j = jt_part u c n j := by
  unfold jt_part
  rw [h (44 + c) (by omega) (by omega), h j j0 j1]
  split
  · rename_i q
    rw [jt_y_congr h c0 c1 _ (by omega), jt_by_congr h c0 c1 (by omega) (by omega)]
  · rfl
theorem jt_come_congr {t u : Int → Int} (h : ∀ k, 0 ≤ k → k < 62 → t k = u k) (hw : t 0 ≤ 4) {c : Int} (c0 : 0 ≤ c) (c1 : c < 6) {j : Int} (j0 : 0 ≤ j) (j1 : j < 62) : jt_come t c j = jt_come u c j := by
  unfold jt_come
  rw [h j j0 j1, ← h 0 (by omega) (by omega), jt_part_congr h c0 c1 hw j0 j1]
theorem jt_part_wf {t : Int → Int} (hw : jt_wf t) {c n : Int} (c0 : 0 ≤ c) (c1 : c < 6) (n4 : n ≤ 4) : jt_wf (jt_part t c n) := by
  have hl := fun m m0 m1 => jt_part_lies (n := n) hw (m := m) c0 c1 m0 m1 n4
  have hr := fun (m : Int) m0 m1 => jt_by_r hw (m := m) c0 c1 m0 m1 (jt_y_r hw c0 c1 m.toNat (by omega))
  obtain ⟨w0, w1, w2, w3, w4, w6, w7, w8⟩ := id hw
  have o := fun j h => jt_part_out (t := t) (c := c) (n := n) (j := j) h n4
  have hlt : ∀ m, 0 ≤ m → m < 4 → jt_lies (jt_part t c n) m ≤ t 2 := by
    intro m m0 m1
    rw [hl m m0 m1]
    split
    · have : jt_by t c m (jt_y t c m.toNat) ≤ t 2 - jt_lies t m := by unfold jt_by; omega
      omega
    · have := w7 m m0 m1; omega
  have hnn : ∀ j, 8 ≤ j → j < 32 → 0 ≤ jt_part t c n j := by
    intro j j0 j1
    unfold jt_part
    have := w6 j j0 j1
    split
    · have := hr ((j - 8) / 6) (by omega) (by omega)
      omega
    · omega
  refine ⟨by rw [o 0 (by omega)]; exact w0, by rw [o 1 (by omega)]; exact w1, by rw [o 2 (by omega)]; exact w2, by rw [o 3 (by omega)]; exact w3, fun m m0 m1 => by rw [o (4 + m) (by omega)]; exact w4 m m0 m1, fun j j0 j1 => ?_, fun m m0 m1 => by rw [o 2 (by omega)]; exact hlt m m0 m1, fun c' c0' c1' => ?_⟩
  · refine ⟨hnn j j0 j1, ?_⟩
    have h1 := hlt ((j - 8) / 6) (by omega) (by omega)
    unfold jt_lies at h1
    generalize hm : (j - 8) / 6 = m at h1
    have b0 := hnn (8 + 6 * m) (by omega) (by omega)
    have b1 := hnn (8 + 6 * m + 1) (by omega) (by omega)
    have b2 := hnn (8 + 6 * m + 2) (by omega) (by omega)
    have b3 := hnn (8 + 6 * m + 3) (by omega) (by omega)
    have b4 := hnn (8 + 6 * m + 4) (by omega) (by omega)
    have b5 := hnn (8 + 6 * m + 5) (by omega) (by omega)
    rcases (show j = 8 + 6 * m ∨ j = 8 + 6 * m + 1 ∨ j = 8 + 6 * m + 2 ∨ j = 8 + 6 * m + 3 ∨ j = 8 + 6 * m + 4 ∨ j = 8 + 6 * m + 5 by omega) with q | q | q | q | q | q <;> rw [q] <;> omega
  · rw [o (32 + c') (by omega), o (38 + c') (by omega), o (44 + c') (by omega), o (50 + c') (by omega)]
    exact w8 c' c0' c1'
theorem jt_by_part {t : Int → Int} (hw : jt_wf t) {c n m y : Int} (c0 : 0 ≤ c) (c1 : c < 6) (n4 : n ≤ 4) (m0 : 0 ≤ m) (m1 : m < 4) (hnm : n ≤ m) : jt_by (jt_part t c n) c m y = jt_by t c m y := by
  unfold jt_by
  rw [jt_part_lies hw c0 c1 m0 m1 n4, if_neg (by omega), jt_part_out (j := 32 + c) (by omega) n4, jt_part_out (j := 44 + c) (by omega) n4, jt_part_out (j := 50 + c) (by omega) n4, jt_part_out (j := 4 + m) (by omega) n4, jt_part_out (j := 2) (by omega) n4, Int.add_zero]
theorem jt_part_0 {t : Int → Int} {c : Int} : jt_part t c 0 = t := by
  funext j
  unfold jt_part
  rw [if_neg (by omega)]
/-- the next mat gets its part -/
theorem jt_part_s {t : Int → Int} {c m : Int} (hf : 0 ≤ t (44 + c) ∧ t (44 + c) ≤ 5) (m0 : 0 ≤ m) (m1 : m < 4) (j : Int) : jt_part t c (m + 1) j = if j = 8 + 6 * m + t (44 + c) then jt_part t c m j + jt_by t c m (jt_y t c m.toNat) else jt_part t c m j := by
  unfold jt_part
  by_cases hj : j = 8 + 6 * m + t (44 + c)
  · rw [if_pos hj, if_pos (by omega), if_neg (by omega), show (j - 8) / 6 = m by omega]
  · rw [if_neg hj]
    by_cases hq : 8 ≤ j ∧ j < 8 + 6 * m ∧ (j - 8) % 6 = t (44 + c)
    · rw [if_pos hq, if_pos (by omega)]
    · rw [if_neg hq, if_neg (by omega)]
theorem jt_come_wf {t : Int → Int} (hw : jt_wf t) {c : Int} (c0 : 0 ≤ c) (c1 : c < 6) : jt_wf (jt_come t c) := by
  have h1 := jt_part_wf hw c0 c1 hw.1.2
  have key : ∀ j, j < 56 → jt_come t c j = jt_part t c (t 0) j := fun j hj => by unfold jt_come; rw [if_neg (by omega)]
  obtain ⟨w0, w1, w2, w3, w4, w6, w7, w8⟩ := h1
  refine ⟨by rw [key 0 (by omega)]; exact w0, by rw [key 1 (by omega)]; exact w1, by rw [key 2 (by omega)]; exact w2, by rw [key 3 (by omega)]; exact w3, fun m m0 m1 => by rw [key _ (by omega)]; exact w4 m m0 m1, fun j j0 j1 => by rw [key _ (by omega)]; exact w6 j j0 j1, fun m m0 m1 => ?_, fun c' c0' c1' => ?_⟩
  · have e : jt_lies (jt_come t c) m = jt_lies (jt_part t c (t 0)) m := by
      unfold jt_lies
      rw [key _ (by omega), key _ (by omega), key _ (by omega), key _ (by omega), key _ (by omega), key _ (by omega)]
    rw [key 2 (by omega), e]
    exact w7 m m0 m1
  · rw [key _ (by omega), key _ (by omega), key _ (by omega), key _ (by omega)]
    exact w8 c' c0' c1'
theorem jt_come_lies {t : Int → Int} (hw : jt_wf t) {c m : Int} (c0 : 0 ≤ c) (c1 : c < 6) (m0 : 0 ≤ m) (m1 : m < 4) : jt_lies (jt_come t c) m = jt_lies t m + if m < t 0 then jt_by t c m (jt_y t c m.toNat) else 0 := by
  rw [← jt_part_lies hw c0 c1 m0 m1 hw.1.2]
  unfold jt_lies
  have key : ∀ j, j < 56 → jt_come t c j = jt_part t c (t 0) j := fun j hj => by unfold jt_come; rw [if_neg (by omega)]
  rw [key _ (by omega), key _ (by omega), key _ (by omega), key _ (by omega), key _ (by omega), key _ (by omega)]
theorem jt_come_out {t : Int → Int} {c j : Int} (h : j < 8 ∨ (32 ≤ j ∧ j < 56)) (c0 : 0 ≤ c) (ht : t 0 ≤ 4) : jt_come t c j = t j := by
  unfold jt_come
  rw [if_neg (by omega), jt_part_out (by omega) ht]
end
section
set_option maxRecDepth 10000 in
set_option maxHeartbeats 1000000 in
theorem mo_comesAt_l {X : jm_X} {d : Nat} {Q : jv_P} {base c : Int} {μ0 : jm_M} {t : Int → Int} (hb : 0 ≤ base ∧ base ≤ 1674) (hc : 0 ≤ c ∧ c < 6) (hw : jt_wf t) (hcf : jt_cf t 100000) (k : Q [.inl (jt_y t c (t 0).toNat)] (jm_uc μ0 95 (jt_in (μ0 95) base (jt_come t c)))) : ∀ (n : Nat) (m y : Int) (o5 : Option jm_V) (μ : jm_M), 0 ≤ m → m ≤ t 0 → t 0 - m < n → y = jt_y t c m.toNat → μ = jm_uc μ0 95 (jt_in (μ0 95) base (jt_part t c m)) →
    jV X (d + 2) jm_p_X10_comesAt Q 11 [some (.inr (.inr 94)), some (.inl base), some (.inl c), some (.inl y), some (.inl m), o5] [] μ := by
  have hw0 := hw.1
  have hcc := hcf c hc.1 hc.2
  intro n
  induction n with
  | zero =>
    intro m y o5 μ hm0 hm1 hmn hy hμ
    exfalso
    omega
  | succ n ih =>
    intro m y o5 μ hm0 hm1 hmn hy hμ
    have hin : ∀ k, 0 ≤ k → k < 62 → jt_part t c m k = μ 95 (base + k) := by
      intro k k0 k1
      rw [hμ, jm_uc_self, jt_in_at k0 k1]
    have hwμ : jt_wf (fun k => μ 95 (base + k)) := jt_wf_congr hin (jt_part_wf hw hc.1 hc.2 (by omega))
    have hn : μ 95 (base + 0) = t 0 := by rw [← hin 0 (by omega) (by omega), jt_part_out (by omega) (by omega)]
    have hyr : 0 ≤ y ∧ y ≤ 60 := by rw [hy]; exact jt_y_r hw hc.1 hc.2 m.toNat (by omega)
    have hfw := (hw.2.2.2.2.2.2.2 c hc.1 hc.2).2.2.1
    have hf1 : μ 95 (base + 44 + c) = t (44 + c) := by rw [Int.add_assoc base 44 c, ← hin (44 + c) (by omega) (by omega), jt_part_out (by omega) (by omega)]
    have hcm : μ 95 (base + 56 + c) = t (56 + c) := by rw [Int.add_assoc base 56 c, ← hin (56 + c) (by omega) (by omega), jt_part_out (by omega) (by omega)]
    have hby : m < 4 → jt_by (fun k => μ 95 (base + k)) c m y = jt_by t c m y := fun h4 => by rw [← jt_by_congr hin hc.1 hc.2 hm0 h4, jt_by_part hw hc.1 hc.2 (by omega) hm0 h4 (Int.le_refl m)]
    have hbr : m < 4 → 0 ≤ jt_by t c m y ∧ jt_by t c m y ≤ y := fun h4 => jt_by_r hw hc.1 hc.2 hm0 h4 hyr
    have hsr : ∀ k, 8 ≤ k → k < 32 → 0 ≤ μ 95 (base + k) ∧ μ 95 (base + k) ≤ 60 := hwμ.2.2.2.2.2.1
    have hsr2 : m < 4 → 0 ≤ μ 95 (base + 8 + 6 * m + μ 95 (base + 44 + c)) ∧ μ 95 (base + 8 + 6 * m + μ 95 (base + 44 + c)) ≤ 60 := fun h4 => by
      have := hsr (8 + 6 * m + μ 95 (base + 44 + c)) (by omega) (by omega)
      rw [← Int.add_assoc, ← Int.add_assoc] at this
      exact this
    refine jv_iload rfl rfl rfl ?_
    refine jv_aload_n rfl rfl rfl (by decide) ?_
    refine jv_getr (w := 95) rfl rfl rfl ⟨by decide, rfl⟩ rfl rfl ?_
    refine jv_iload_n rfl rfl rfl ?_
    refine jv_iconst rfl rfl ?_
    refine jv_iadd rfl rfl ⟨by omega, by omega⟩ ?_
    refine jv_iaload rfl rfl (by decide) rfl ⟨by omega, by omega⟩ ?_
    refine jv_icmp_ge rfl rfl rfl (fun c18 => ?_) (fun c18 => ?_)
    · refine jv_aload_n rfl rfl rfl (by decide) ?_
      refine jv_getr (w := 95) rfl rfl rfl ⟨by decide, rfl⟩ rfl rfl ?_
      refine jv_iload_n rfl rfl rfl ?_
      refine jv_bipush rfl rfl ?_
      refine jv_iadd rfl rfl ⟨by omega, by omega⟩ ?_
      refine jv_iload_n rfl rfl rfl ?_
      refine jv_iadd rfl rfl ⟨by omega, by omega⟩ ?_
      refine jv_dup2 rfl rfl ?_
      refine jv_iaload rfl rfl (by decide) rfl ⟨by omega, by omega⟩ ?_
      refine jv_iconst rfl rfl ?_
      refine jv_iadd rfl rfl ⟨by omega, by omega⟩ ?_
      refine jv_iastore rfl rfl rfl (by decide) ⟨by omega, by omega⟩ (fun μ66 eμ66 => ?_)
      refine jv_iload_n rfl rfl rfl ?_
      refine jv_ireturn rfl (Or.inl rfl) ?_
      have hm4 : m = t 0 := by omega
      have e2 : μ66 = jm_uc μ0 95 (jt_in (μ0 95) base (jt_come t c)) := by
        rw [eμ66, hμ, jm_uc2]
        congr 1
        funext j
        simp only [jm_u1, jm_uc_self]
        by_cases hj : j = base + 56 + c
        · subst hj
          rw [if_pos rfl, Int.add_assoc base 56 c, jt_in_at (by omega) (by omega), jt_in_at (by omega) (by omega), hm4]
          unfold jt_come
          rw [if_pos rfl, jt_part_out (by omega) hw0.2]
        · rw [if_neg hj]
          unfold jt_in
          split
          · unfold jt_come
            rw [if_neg (by omega), hm4]
          · rfl
      rw [e2, hy, hm4]
      exact k
    · refine jv_aload_n rfl rfl rfl (by decide) ?_
      refine jv_iload_n rfl rfl rfl ?_
      refine jv_iload_n rfl rfl rfl ?_
      refine jv_iload rfl rfl rfl ?_
      refine jv_iload_n rfl rfl rfl ?_
      refine jv_callV4 rfl rfl rfl rfl ⟨by decide, rfl⟩ (Nat.le_of_ble_eq_true rfl) (mo_leavesOn (by omega) (by omega) (by omega) (by omega) hwμ ?_)
      show jV _ _ jm_p_X10_comesAt _ 25 [some (.inr (.inr 94)), some (.inl base), some (.inl c), some (.inl y), some (.inl m), o5] [.inl (jt_by (fun k => μ 95 (base + k)) c m y)] μ
      refine jv_istore (fun x => [some (.inr (.inr 94)), some (.inl base), some (.inl c), some (.inl y), some (.inl m), some (.inl x)]) rfl rfl (fun _ => rfl) (fun x5_25 ex5_25 => ?_)
      have h4 : m < 4 := by omega
      have ex5_25' := ex5_25.trans (hby h4)
      have hbr' := hbr h4
      have hsr' := hsr2 h4
      refine jv_aload_n rfl rfl rfl (by decide) ?_
      refine jv_getr (w := 95) rfl rfl rfl ⟨by decide, rfl⟩ rfl rfl ?_
      refine jv_iload_n rfl rfl rfl ?_
      refine jv_bipush rfl rfl ?_
      refine jv_iadd rfl rfl ⟨by omega, by omega⟩ ?_
      refine jv_bipush rfl rfl ?_
      refine jv_iload rfl rfl rfl ?_
      refine jv_imul rfl rfl ⟨by omega, by omega⟩ ?_
      refine jv_iadd rfl rfl ⟨by omega, by omega⟩ ?_
      refine jv_aload_n rfl rfl rfl (by decide) ?_
      refine jv_getr (w := 95) rfl rfl rfl ⟨by decide, rfl⟩ rfl rfl ?_
      refine jv_iload_n rfl rfl rfl ?_
      refine jv_bipush rfl rfl ?_
      refine jv_iadd rfl rfl ⟨by omega, by omega⟩ ?_
      refine jv_iload_n rfl rfl rfl ?_
      refine jv_iadd rfl rfl ⟨by omega, by omega⟩ ?_
      refine jv_iaload rfl rfl (by decide) rfl ⟨by omega, by omega⟩ ?_
      refine jv_iadd rfl rfl ⟨by omega, by omega⟩ ?_
      refine jv_dup2 rfl rfl ?_
      refine jv_iaload rfl rfl (by decide) rfl ⟨by omega, by omega⟩ ?_
      refine jv_iload rfl rfl rfl ?_
      refine jv_iadd rfl rfl ⟨by omega, by omega⟩ ?_
      refine jv_iastore rfl rfl rfl (by decide) ⟨by omega, by omega⟩ (fun μ48 eμ48 => ?_)
      refine jv_iload_n rfl rfl rfl ?_
      refine jv_iload rfl rfl rfl ?_
      refine jv_isub rfl rfl ⟨by omega, by omega⟩ ?_
      refine jv_istore_n (fun x => [some (.inr (.inr 94)), some (.inl base), some (.inl c), some (.inl x), some (.inl m), some (.inl x5_25)]) rfl rfl (fun _ => rfl) (fun x3_52 ex3_52 => ?_)
      refine jv_iinc (fun x => [some (.inr (.inr 94)), some (.inl base), some (.inl c), some (.inl x3_52), some (.inl x), some (.inl x5_25)]) rfl rfl rfl ⟨by omega, by omega⟩ (fun _ => rfl) (fun x4_53 ex4_53 => ?_)
      refine jv_goto rfl rfl ?_
      refine ih x4_53 x3_52 _ μ48 (by omega) (by omega) (by omega) ?_ ?_
      · rw [ex3_52, ex4_53, show (m + 1).toNat = m.toNat + 1 by omega]
        simp only [jt_y]
        rw [ex5_25', show ((m.toNat : Nat) : Int) = m by omega, ← hy]
      · rw [eμ48, hf1, hμ, jm_uc2]
        congr 1
        funext j
        rw [ex4_53]
        simp only [jm_u1, jm_uc_self]
        by_cases hj : j = base + 8 + 6 * m + t (44 + c)
        · rw [if_pos hj, hj]
          have ej : base + 8 + 6 * m + t (44 + c) = base + (8 + 6 * m + t (44 + c)) := by omega
          rw [ej, jt_in_at (by omega) (by omega), jt_in_at (by omega) (by omega), jt_part_s hfw hm0 h4, if_pos rfl, ex5_25', ← hy]
        · rw [if_neg hj]
          unfold jt_in
          split
          · rw [jt_part_s hfw hm0 h4, if_neg (by omega)]
          · rfl
set_option maxRecDepth 10000 in
theorem mo_comesAt {X : jm_X} {d : Nat} {Q : jv_P} {μ : jm_M} {base c : Int} (hb : 0 ≤ base ∧ base ≤ 1674) (hc : 0 ≤ c ∧ c < 6) (hw : jt_wf (fun k => μ 95 (base + k))) (hcf : jt_cf (fun k => μ 95 (base + k)) 100000) (k : Q [.inl (jt_y (fun k => μ 95 (base + k)) c (μ 95 (base + 0)).toNat)] (jm_uc μ 95 (jt_in (μ 95) base (jt_come (fun k => μ 95 (base + k)) c)))) : cV X (d + 3) 169 [.inr (.inr 94), .inl base, .inl c] μ Q := by
  refine jv_enter (d := d + 2) jm_p_X10_comesAt [some (.inr (.inr 94)), some (.inl base), some (.inl c), none, none, none] rfl rfl rfl (Nat.le_of_ble_eq_true rfl) rfl rfl ?_
  refine jv_aload_n rfl rfl rfl (by decide) ?_
  refine jv_getr (w := 95) rfl rfl rfl ⟨by decide, rfl⟩ rfl rfl ?_
  refine jv_iload_n rfl rfl rfl ?_
  refine jv_bipush rfl rfl ?_
  refine jv_iadd rfl rfl ⟨by omega, by omega⟩ ?_
  refine jv_iload_n rfl rfl rfl ?_
  refine jv_iadd rfl rfl ⟨by omega, by omega⟩ ?_
  refine jv_iaload rfl rfl (by decide) rfl ⟨by omega, by omega⟩ ?_
  refine jv_istore_n (fun x => [some (.inr (.inr 94)), some (.inl base), some (.inl c), some (.inl x), none, none]) rfl rfl (fun _ => rfl) (fun x3_8 ex3_8 => ?_)
  refine jv_iconst rfl rfl ?_
  refine jv_istoreK (L2 := [some (.inr (.inr 94)), some (.inl base), some (.inl c), some (.inl x3_8), some (.inl 0), none]) rfl rfl rfl ?_
  refine mo_comesAt_l (t := (fun k => μ 95 (base + k))) hb hc hw hcf k 10 0 x3_8 _ μ (by omega) hw.1.1 (by have := hw.1.2; dsimp only at this ⊢; omega) ?_ ?_
  · rw [ex3_8, Int.add_assoc]
    rfl
  · rw [jt_part_0, jt_in_self, jm_uc_id]
end
section
/-! what holds between the class's cells (0 .. 93) and the reference's (94 .. 103) ahead of every call -/
/-- the rows -/
def ji_rows (μ : jm_M) : Prop := (∀ j, 0 ≤ j → j < 320 → μ 2 j = μ 99 j) ∧ ∀ r, 0 ≤ r → r < 8 → μ 3 r = μ 97 r ∧ μ 4 r = μ 98 r ∧ (-1 ≤ μ 98 r ∧ μ 98 r ≤ 40) ∧ (0 ≤ μ 97 r ∧ μ 97 r ≤ 2)
def ji_tape (μ : jm_M) : Prop := μ 5 1 = μ 94 8 ∧ (0 ≤ μ 94 8 ∧ μ 94 8 ≤ 100) ∧ ∀ j, 0 ≤ j → j < μ 94 8 → μ 6 j = μ 100 j ∧ 0 ≤ μ 100 j ∧ μ 100 j ≤ 255
def ji_trace (μ : jm_M) : Prop := μ 58 1 = μ 94 12 ∧ (0 ≤ μ 94 12 ∧ μ 94 12 ≤ 16) ∧ ∀ j, 0 ≤ j → j < μ 94 12 → μ 59 j = μ 101 j
/-- the four mats of the house at h: each at one place -/
def jh_mats (μ : jm_M) (h : Int) : Prop := (∀ m, 0 ≤ m → m < 4 → μ (h + 1) m = h + 3 ∨ μ (h + 1) m = h + 5 ∨ μ (h + 1) m = h + 7 ∨ μ (h + 1) m = h + 9) ∧ (∀ m m', 0 ≤ m → m < 4 → 0 ≤ m' → m' < 4 → μ (h + 1) m = μ (h + 1) m' → m = m') ∧ ∀ c, 0 ≤ c → c < 6 → μ (h + 2) c = h + 11 + c
/-- the house at h is the town t -/
def jh_rel (μ : jm_M) (h : Int) (t : Int → Int) : Prop := (μ h 0 = t 2 ∧ μ h 1 = t 3 ∧ μ h 2 = t 0 ∧ μ h 3 = t 1) ∧
  (∀ m, 0 ≤ m → m < t 0 → μ (μ (h + 1) m) 0 = t (4 + m) ∧ ∀ k, 0 ≤ k → k < 6 → μ (μ (h + 1) m + 1) k = t (8 + 6 * m + k)) ∧ (∀ m, t 0 ≤ m → m < 4 → ∀ k, 0 ≤ k → k < 6 → μ (μ (h + 1) m + 1) k = 0) ∧
  (∀ c, 0 ≤ c → c < t 1 → μ (h + 11 + c) 0 = t (32 + c) ∧ μ (h + 11 + c) 1 = t (38 + c) ∧ μ (h + 11 + c) 2 = t (44 + c) ∧ μ (h + 11 + c) 3 = t (50 + c) ∧ μ (h + 11 + c) 4 = t (56 + c))
/-- kinds of comers that there are: 1 to 5 -/
def jt_kd (t : Int → Int) : Prop := ∀ c, 0 ≤ c → c < t 1 → 1 ≤ t (32 + c)
def ji_town (μ : jm_M) : Prop := jt_wf (μ 95) ∧ jt_cf (μ 95) 999 ∧ jt_kd (μ 95) ∧ jh_mats μ 7 ∧ jh_rel μ 7 (μ 95) ∧ (μ 94 1 = 0 ∨ μ 94 1 = 1) ∧ (μ 94 1 = 1 ↔ 1 ≤ μ 95 0) ∧ (μ 95 0 = 0 → μ 95 1 = 0)
/-- the other houses have their mats in their places -/
def ji_idle (μ : jm_M) : Prop := (∀ m, 0 ≤ m → m < 4 → μ 25 m = 27 + 2 * m ∧ μ 61 m = 63 + 2 * m ∧ μ 78 m = 80 + 2 * m) ∧ (∀ c, 0 ≤ c → c < 6 → μ 26 c = 35 + c ∧ μ 62 c = 71 + c ∧ μ 79 c = 88 + c) ∧ μ 41 0 = 60 ∧ μ 41 1 = 77
def ji_img (μ : jm_M) (k : Int) : Prop := μ 42 k = μ 96 k ∧ (μ 96 k = 0 ∨ μ 96 k = 1) ∧ (μ 96 k = 1 → jt_wf (fun j => μ 95 (1550 + 62 * k + j)) ∧ jt_cf (fun j => μ 95 (1550 + 62 * k + j)) 999 ∧ jt_kd (fun j => μ 95 (1550 + 62 * k + j)) ∧ jh_rel μ (60 + 17 * k) (fun j => μ 95 (1550 + 62 * k + j)) ∧ 1 ≤ μ 95 (1550 + 62 * k))
/-- what an act may have altered, as numbers from s on, is the town p -/
def jg_cell (g : Int → Int) (s : Int) (p : Int → Int) : Prop := (∀ m, 0 ≤ m → m < p 0 → g (s + 7 * m) = p (4 + m) ∧ ∀ k, 0 ≤ k → k < 6 → g (s + 7 * m + 1 + k) = p (8 + 6 * m + k)) ∧ (∀ m, p 0 ≤ m → m < 4 → ∀ k, 0 ≤ k → k < 6 → g (s + 7 * m + 1 + k) = 0) ∧ ∀ c, 0 ≤ c → c < p 1 → g (s + 28 + 2 * c) = p (38 + c) ∧ g (s + 28 + 2 * c + 1) = p (56 + c)
/-- what no act alters -/
def jt_same (t p : Int → Int) : Prop := p 0 = t 0 ∧ p 1 = t 1 ∧ p 2 = t 2 ∧ p 3 = t 3 ∧ ∀ c, 0 ≤ c → c < t 1 → p (32 + c) = t (32 + c) ∧ p (44 + c) = t (44 + c) ∧ p (50 + c) = t (50 + c)
def ji_past (μ : jm_M) : Prop := (0 ≤ μ 94 2 ∧ μ 94 2 ≤ 24) ∧ μ 43 2 = μ 94 2 ∧ (0 ≤ μ 43 1 ∧ μ 43 1 < 24) ∧ ∀ k, 0 ≤ k → k < μ 94 2 →
  jt_wf (fun j => μ 95 (62 + 62 * k + j)) ∧ jt_cf (fun j => μ 95 (62 + 62 * k + j)) 999 ∧ jt_same (μ 95) (fun j => μ 95 (62 + 62 * k + j)) ∧ jg_cell (μ 44) (40 * ((μ 43 1 + 24 - μ 94 2 + k) % 24)) (fun j => μ 95 (62 + 62 * k + j))
def jI (μ : jm_M) : Prop := ji_rows μ ∧ ji_tape μ ∧ ji_trace μ ∧ (μ 0 11 = μ 94 10 ∧ μ 0 10 = μ 94 9) ∧ ji_town μ ∧ ji_idle μ ∧ (ji_img μ 0 ∧ ji_img μ 1) ∧ ji_past μ
/-- the class's method f and the reference's g answer alike -/
def jp (X : jm_X) (f g : Nat) (vs : List jm_V) : Prop := ∀ μ, jI μ → cV X 200 f (.inr (.inr 0) :: vs) μ (fun v μ1 => ∃ r, v = [.inl r] ∧ cV X 200 g (.inr (.inr 94) :: vs) μ1 (fun v2 μ2 => v2 = [.inl r] ∧ jI μ2))
end
section
def jp_all (len : Nat) (sc : Int → Int) : Prop := (∀ a0 a1 a2 : Int, jm_r a0 → jm_r a1 → jm_r a2 → jp (jm_xt len sc) 88 141 [.inl a0, .inl a1, .inl a2]) ∧ (∀ a0 a1 a2 : Int, jm_r a0 → jm_r a1 → jm_r a2 → jp (jm_xt len sc) 89 143 [.inl a0, .inl a1, .inl a2]) ∧ (∀ a0 a1 a2 a3 a4 : Int, jm_r a0 → jm_r a1 → jm_r a2 → jm_r a3 → jm_r a4 → jp (jm_xt len sc) 90 145 [.inl a0, .inl a1, .inl a2, .inl a3, .inl a4]) ∧ (∀ a0 : Int, jm_r a0 → jp (jm_xt len sc) 91 146 [.inl a0]) ∧ (∀ a0 : Int, jm_r a0 → jp (jm_xt len sc) 92 147 [.inl a0]) ∧ (jp (jm_xt len sc) 93 159 []) ∧ (jp (jm_xt len sc) 94 160 []) ∧ (∀ a0 : Int, jm_r a0 → jp (jm_xt len sc) 95 172 [.inl a0]) ∧ (∀ a0 : Int, jm_r a0 → jp (jm_xt len sc) 96 173 [.inl a0]) ∧ (∀ a0 : Int, jm_r a0 → jp (jm_xt len sc) 97 175 [.inl a0]) ∧ (∀ a0 : Int, jm_r a0 → jp (jm_xt len sc) 98 176 [.inl a0]) ∧ (jp (jm_xt len sc) 99 163 []) ∧ (∀ a0 a1 : Int, jm_r a0 → jm_r a1 → jp (jm_xt len sc) 100 177 [.inl a0, .inl a1]) ∧ (∀ a0 a1 : Int, jm_r a0 → jm_r a1 → jp (jm_xt len sc) 101 179 [.inl a0, .inl a1]) ∧ (∀ a0 a1 : Int, jm_r a0 → jm_r a1 → jp (jm_xt len sc) 102 180 [.inl a0, .inl a1]) ∧ (∀ a0 a1 : Int, jm_r a0 → jm_r a1 → jp (jm_xt len sc) 103 181 [.inl a0, .inl a1]) ∧ (∀ a0 a1 : Int, jm_r a0 → jm_r a1 → jp (jm_xt len sc) 104 184 [.inl a0, .inl a1]) ∧ (∀ a0 : Int, jm_r a0 → jp (jm_xt len sc) 105 185 [.inl a0]) ∧ (jp (jm_xt len sc) 106 186 []) ∧ (∀ a0 : Int, jm_r a0 → jp (jm_xt len sc) 107 192 [.inl a0]) ∧ (∀ a0 : Int, jm_r a0 → jp (jm_xt len sc) 108 194 [.inl a0]) ∧ (∀ a0 a1 a2 : Int, jm_r a0 → jm_r a1 → jm_r a2 → jp (jm_xt len sc) 109 195 [.inl a0, .inl a1, .inl a2]) ∧ (∀ a0 : Int, jm_r a0 → jp (jm_xt len sc) 110 196 [.inl a0]) ∧ (∀ a0 a1 : Int, jm_r a0 → jm_r a1 → jp (jm_xt len sc) 111 197 [.inl a0, .inl a1]) ∧ (∀ a0 a1 : Int, jm_r a0 → jm_r a1 → jp (jm_xt len sc) 112 200 [.inl a0, .inl a1]) ∧ (∀ a0 a1 a2 a3 : Int, jm_r a0 → jm_r a1 → jm_r a2 → jm_r a3 → jp (jm_xt len sc) 113 201 [.inl a0, .inl a1, .inl a2, .inl a3]) ∧ (∀ a0 a1 a2 : Int, jm_r a0 → jm_r a1 → jm_r a2 → jp (jm_xt len sc) 114 202 [.inl a0, .inl a1, .inl a2]) ∧ (∀ a0 a1 a2 : Int, jm_r a0 → jm_r a1 → jm_r a2 → jp (jm_xt len sc) 115 203 [.inl a0, .inl a1, .inl a2]) ∧ (∀ a0 : Int, jm_r a0 → jp (jm_xt len sc) 116 204 [.inl a0]) ∧ (∀ a0 : Int, jm_r a0 → jp (jm_xt len sc) 117 205 [.inl a0]) ∧ (∀ a0 : Int, jm_r a0 → jp (jm_xt len sc) 118 206 [.inl a0]) ∧ (∀ a0 a1 : Int, jm_r a0 → jm_r a1 → jp (jm_xt len sc) 119 208 [.inl a0, .inl a1]) ∧ (∀ a0 a1 : Int, jm_r a0 → jm_r a1 → jp (jm_xt len sc) 120 218 [.inl a0, .inl a1]) ∧ (∀ a0 : Int, jm_r a0 → jp (jm_xt len sc) 121 219 [.inl a0]) ∧ (∀ a0 : Int, jm_r a0 → jp (jm_xt len sc) 122 221 [.inl a0]) ∧ (jp (jm_xt len sc) 123 222 [])
set_option maxRecDepth 20000 in
set_option maxHeartbeats 4000000 in
theorem law_loop {len : Nat} {sc : Int → Int} (hlen : len ≤ 384) (hsc : ∀ j, jm_r (sc j)) (hp : jp_all len sc) : ∀ (n : Nat) (x : Int) (μ : jm_M), jI μ → 0 ≤ x → (len : Int) - x < n → x ≤ 1000 → jV (jm_xt len sc) 200 jm_p_L_law (fun v _ => v = [.inl 1]) 10 [some (.inr (.inr (-2))), some (.inr (.inr 0)), some (.inr (.inr 94)), some (.inl x)] [] μ := by
  obtain ⟨g0, g1, g2, g3, g4, g5, g6, g7, g8, g9, g10, g11, g12, g13, g14, g15, g16, g17, g18, g19, g20, g21, g22, g23, g24, g25, g26, g27, g28, g29, g30, g31, g32, g33, g34, g35⟩ := hp
  intro n
  induction n with
  | zero =>
    intro x μ hI x0 xn x1
    -- no call is left
    refine jv_iload_n rfl rfl rfl ?_
    refine jv_aload_n rfl rfl rfl (by decide) ?_
    refine jv_alen (ln := len) (f := sc) rfl rfl ⟨by decide, by decide⟩ rfl ?_
    refine jv_bipush rfl rfl ?_
    refine jv_isub rfl rfl ⟨by omega, by omega⟩ ?_
    refine jv_icmp_gtT rfl rfl (by omega) ?_
    refine jv_iconst rfl rfl ?_
    exact jv_ireturn rfl (Or.inr ⟨rfl, by decide⟩) rfl
  | succ n ih =>
    intro x μ hI x0 xn x1
    refine jv_iload_n rfl rfl rfl ?_
    refine jv_aload_n rfl rfl rfl (by decide) ?_
    refine jv_alen (ln := len) (f := sc) rfl rfl ⟨by decide, by decide⟩ rfl ?_
    refine jv_bipush rfl rfl ?_
    refine jv_isub rfl rfl ⟨by omega, by omega⟩ ?_
    refine jv_icmp_gt rfl rfl rfl (fun c15 => ?_) (fun c15 => ?_)
    · refine jv_iconst rfl rfl ?_
      exact jv_ireturn rfl (Or.inr ⟨rfl, by decide⟩) rfl
    have hend : ∀ μ2, jI μ2 → jV (jm_xt len sc) 200 jm_p_L_law (fun v _ => v = [.inl 1]) 844 [some (.inr (.inr (-2))), some (.inr (.inr 0)), some (.inr (.inr 94)), some (.inl x)] [] μ2 := by
      intro μ2 hI2
      refine jv_iinc (fun x => [some (.inr (.inr (-2))), some (.inr (.inr 0)), some (.inr (.inr 94)), some (.inl x)]) rfl rfl rfl ⟨by omega, by omega⟩ (fun _ => rfl) (fun y ey => ?_)
      refine jv_goto rfl rfl ?_
      exact ih y μ2 hI2 (by omega) (by omega) (by omega)
    refine jv_aload_n rfl rfl rfl (by decide) ?_
    refine jv_iload_n rfl rfl rfl ?_
    refine jv_xaload (ln := len) (f := sc) rfl rfl ⟨by decide, by decide⟩ rfl ⟨by omega, by omega⟩ ?_
    refine jv_bipush rfl rfl ?_
    refine jv_iand rfl rfl ?_
    refine jv_tsw rfl (And.intro (fun _ => ?_) (fun _ => (And.intro (fun _ => ?_) (fun _ => (And.intro (fun _ => ?_) (fun _ => (And.intro (fun _ => ?_) (fun _ => (And.intro (fun _ => ?_) (fun _ => (And.intro (fun _ => ?_) (fun _ => (And.intro (fun _ => ?_) (fun _ => (And.intro (fun _ => ?_) (fun _ => (And.intro (fun _ => ?_) (fun _ => (And.intro (fun _ => ?_) (fun _ => (And.intro (fun _ => ?_) (fun _ => (And.intro (fun _ => ?_) (fun _ => (And.intro (fun _ => ?_) (fun _ => (And.intro (fun _ => ?_) (fun _ => (And.intro (fun _ => ?_) (fun _ => (And.intro (fun _ => ?_) (fun _ => (And.intro (fun _ => ?_) (fun _ => (And.intro (fun _ => ?_) (fun _ => (And.intro (fun _ => ?_) (fun _ => (And.intro (fun _ => ?_) (fun _ => (And.intro (fun _ => ?_) (fun _ => (And.intro (fun _ => ?_) (fun _ => (And.intro (fun _ => ?_) (fun _ => (And.intro (fun _ => ?_) (fun _ => (And.intro (fun _ => ?_) (fun _ => (And.intro (fun _ => ?_) (fun _ => (And.intro (fun _ => ?_) (fun _ => (And.intro (fun _ => ?_) (fun _ => (And.intro (fun _ => ?_) (fun _ => (And.intro (fun _ => ?_) (fun _ => (And.intro (fun _ => ?_) (fun _ => (And.intro (fun _ => ?_) (fun _ => (And.intro (fun _ => ?_) (fun _ => (And.intro (fun _ => ?_) (fun _ => (And.intro (fun _ => ?_) (fun _ => (And.intro (fun _ => ?_) (fun _ => ?_))))))))))))))))))))))))))))))))))))))))))))))))))))))))))))))))))))))))
    · refine jv_aload_n rfl rfl rfl (by decide) ?_
      refine jv_aload_n rfl rfl rfl (by decide) ?_
      refine jv_iload_n rfl rfl rfl ?_
      refine jv_iconst rfl rfl ?_
      refine jv_iadd rfl rfl ⟨by omega, by omega⟩ ?_
      refine jv_xaload (ln := len) (f := sc) rfl rfl ⟨by decide, by decide⟩ rfl ⟨by omega, by omega⟩ ?_
      refine jv_aload_n rfl rfl rfl (by decide) ?_
      refine jv_iload_n rfl rfl rfl ?_
      refine jv_iconst rfl rfl ?_
      refine jv_iadd rfl rfl ⟨by omega, by omega⟩ ?_
      refine jv_xaload (ln := len) (f := sc) rfl rfl ⟨by decide, by decide⟩ rfl ⟨by omega, by omega⟩ ?_
      refine jv_aload_n rfl rfl rfl (by decide) ?_
      refine jv_iload_n rfl rfl rfl ?_
      refine jv_iconst rfl rfl ?_
      refine jv_iadd rfl rfl ⟨by omega, by omega⟩ ?_
      refine jv_xaload (ln := len) (f := sc) rfl rfl ⟨by decide, by decide⟩ rfl ⟨by omega, by omega⟩ ?_
      refine jv_callV3 rfl rfl rfl rfl ⟨by decide, rfl⟩ (Nat.le_of_ble_eq_true rfl) (jv_mono (g0 _ _ _ (hsc _) (hsc _) (hsc _) μ hI) (fun v μ1 hv => ?_))
      obtain ⟨r, rfl, hv⟩ := hv
      show jV _ _ jm_p_L_law _ 39 [some (.inr (.inr (-2))), some (.inr (.inr 0)), some (.inr (.inr 94)), some (.inl x)] [.inl r] μ1
      refine jv_aload_n rfl rfl rfl (by decide) ?_
      refine jv_aload_n rfl rfl rfl (by decide) ?_
      refine jv_iload_n rfl rfl rfl ?_
      refine jv_iconst rfl rfl ?_
      refine jv_iadd rfl rfl ⟨by omega, by omega⟩ ?_
      refine jv_xaload (ln := len) (f := sc) rfl rfl ⟨by decide, by decide⟩ rfl ⟨by omega, by omega⟩ ?_
      refine jv_aload_n rfl rfl rfl (by decide) ?_
      refine jv_iload_n rfl rfl rfl ?_
      refine jv_iconst rfl rfl ?_
      refine jv_iadd rfl rfl ⟨by omega, by omega⟩ ?_
      refine jv_xaload (ln := len) (f := sc) rfl rfl ⟨by decide, by decide⟩ rfl ⟨by omega, by omega⟩ ?_
      refine jv_aload_n rfl rfl rfl (by decide) ?_
      refine jv_iload_n rfl rfl rfl ?_
      refine jv_iconst rfl rfl ?_
      refine jv_iadd rfl rfl ⟨by omega, by omega⟩ ?_
      refine jv_xaload (ln := len) (f := sc) rfl rfl ⟨by decide, by decide⟩ rfl ⟨by omega, by omega⟩ ?_
      refine jv_callV3 rfl rfl rfl rfl ⟨by decide, rfl⟩ (Nat.le_of_ble_eq_true rfl) (jv_mono hv (fun v2 μ2 hv2 => ?_))
      obtain ⟨rfl, hI2⟩ := hv2
      show jV _ _ jm_p_L_law _ 56 [some (.inr (.inr (-2))), some (.inr (.inr 0)), some (.inr (.inr 94)), some (.inl x)] [.inl r, .inl r] μ2
      refine jv_icmp_eqT rfl rfl rfl ?_
      exact hend μ2 hI2
    · refine jv_aload_n rfl rfl rfl (by decide) ?_
      refine jv_aload_n rfl rfl rfl (by decide) ?_
      refine jv_iload_n rfl rfl rfl ?_
      refine jv_iconst rfl rfl ?_
      refine jv_iadd rfl rfl ⟨by omega, by omega⟩ ?_
      refine jv_xaload (ln := len) (f := sc) rfl rfl ⟨by decide, by decide⟩ rfl ⟨by omega, by omega⟩ ?_
      refine jv_aload_n rfl rfl rfl (by decide) ?_
      refine jv_iload_n rfl rfl rfl ?_
      refine jv_iconst rfl rfl ?_
      refine jv_iadd rfl rfl ⟨by omega, by omega⟩ ?_
      refine jv_xaload (ln := len) (f := sc) rfl rfl ⟨by decide, by decide⟩ rfl ⟨by omega, by omega⟩ ?_
      refine jv_aload_n rfl rfl rfl (by decide) ?_
      refine jv_iload_n rfl rfl rfl ?_
      refine jv_iconst rfl rfl ?_
      refine jv_iadd rfl rfl ⟨by omega, by omega⟩ ?_
      refine jv_xaload (ln := len) (f := sc) rfl rfl ⟨by decide, by decide⟩ rfl ⟨by omega, by omega⟩ ?_
      refine jv_callV3 rfl rfl rfl rfl ⟨by decide, rfl⟩ (Nat.le_of_ble_eq_true rfl) (jv_mono (g1 _ _ _ (hsc _) (hsc _) (hsc _) μ hI) (fun v μ1 hv => ?_))
      obtain ⟨r, rfl, hv⟩ := hv
      show jV _ _ jm_p_L_law _ 76 [some (.inr (.inr (-2))), some (.inr (.inr 0)), some (.inr (.inr 94)), some (.inl x)] [.inl r] μ1
      refine jv_aload_n rfl rfl rfl (by decide) ?_
      refine jv_aload_n rfl rfl rfl (by decide) ?_
      refine jv_iload_n rfl rfl rfl ?_
      refine jv_iconst rfl rfl ?_
      refine jv_iadd rfl rfl ⟨by omega, by omega⟩ ?_
      refine jv_xaload (ln := len) (f := sc) rfl rfl ⟨by decide, by decide⟩ rfl ⟨by omega, by omega⟩ ?_
      refine jv_aload_n rfl rfl rfl (by decide) ?_
      refine jv_iload_n rfl rfl rfl ?_
      refine jv_iconst rfl rfl ?_
      refine jv_iadd rfl rfl ⟨by omega, by omega⟩ ?_
      refine jv_xaload (ln := len) (f := sc) rfl rfl ⟨by decide, by decide⟩ rfl ⟨by omega, by omega⟩ ?_
      refine jv_aload_n rfl rfl rfl (by decide) ?_
      refine jv_iload_n rfl rfl rfl ?_
      refine jv_iconst rfl rfl ?_
      refine jv_iadd rfl rfl ⟨by omega, by omega⟩ ?_
      refine jv_xaload (ln := len) (f := sc) rfl rfl ⟨by decide, by decide⟩ rfl ⟨by omega, by omega⟩ ?_
      refine jv_callV3 rfl rfl rfl rfl ⟨by decide, rfl⟩ (Nat.le_of_ble_eq_true rfl) (jv_mono hv (fun v2 μ2 hv2 => ?_))
      obtain ⟨rfl, hI2⟩ := hv2
      show jV _ _ jm_p_L_law _ 93 [some (.inr (.inr (-2))), some (.inr (.inr 0)), some (.inr (.inr 94)), some (.inl x)] [.inl r, .inl r] μ2
      refine jv_icmp_eqT rfl rfl rfl ?_
      exact hend μ2 hI2
    · refine jv_aload_n rfl rfl rfl (by decide) ?_
      refine jv_aload_n rfl rfl rfl (by decide) ?_
      refine jv_iload_n rfl rfl rfl ?_
      refine jv_iconst rfl rfl ?_
      refine jv_iadd rfl rfl ⟨by omega, by omega⟩ ?_
      refine jv_xaload (ln := len) (f := sc) rfl rfl ⟨by decide, by decide⟩ rfl ⟨by omega, by omega⟩ ?_
      refine jv_aload_n rfl rfl rfl (by decide) ?_
      refine jv_iload_n rfl rfl rfl ?_
      refine jv_iconst rfl rfl ?_
      refine jv_iadd rfl rfl ⟨by omega, by omega⟩ ?_
      refine jv_xaload (ln := len) (f := sc) rfl rfl ⟨by decide, by decide⟩ rfl ⟨by omega, by omega⟩ ?_
      refine jv_aload_n rfl rfl rfl (by decide) ?_
      refine jv_iload_n rfl rfl rfl ?_
      refine jv_iconst rfl rfl ?_
      refine jv_iadd rfl rfl ⟨by omega, by omega⟩ ?_
      refine jv_xaload (ln := len) (f := sc) rfl rfl ⟨by decide, by decide⟩ rfl ⟨by omega, by omega⟩ ?_
      refine jv_aload_n rfl rfl rfl (by decide) ?_
      refine jv_iload_n rfl rfl rfl ?_
      refine jv_iconst rfl rfl ?_
      refine jv_iadd rfl rfl ⟨by omega, by omega⟩ ?_
      refine jv_xaload (ln := len) (f := sc) rfl rfl ⟨by decide, by decide⟩ rfl ⟨by omega, by omega⟩ ?_
      refine jv_aload_n rfl rfl rfl (by decide) ?_
      refine jv_iload_n rfl rfl rfl ?_
      refine jv_iconst rfl rfl ?_
      refine jv_iadd rfl rfl ⟨by omega, by omega⟩ ?_
      refine jv_xaload (ln := len) (f := sc) rfl rfl ⟨by decide, by decide⟩ rfl ⟨by omega, by omega⟩ ?_
      refine jv_callV5 rfl rfl rfl rfl ⟨by decide, rfl⟩ (Nat.le_of_ble_eq_true rfl) (jv_mono (g2 _ _ _ _ _ (hsc _) (hsc _) (hsc _) (hsc _) (hsc _) μ hI) (fun v μ1 hv => ?_))
      obtain ⟨r, rfl, hv⟩ := hv
      show jV _ _ jm_p_L_law _ 123 [some (.inr (.inr (-2))), some (.inr (.inr 0)), some (.inr (.inr 94)), some (.inl x)] [.inl r] μ1
      refine jv_aload_n rfl rfl rfl (by decide) ?_
      refine jv_aload_n rfl rfl rfl (by decide) ?_
      refine jv_iload_n rfl rfl rfl ?_
      refine jv_iconst rfl rfl ?_
      refine jv_iadd rfl rfl ⟨by omega, by omega⟩ ?_
      refine jv_xaload (ln := len) (f := sc) rfl rfl ⟨by decide, by decide⟩ rfl ⟨by omega, by omega⟩ ?_
      refine jv_aload_n rfl rfl rfl (by decide) ?_
      refine jv_iload_n rfl rfl rfl ?_
      refine jv_iconst rfl rfl ?_
      refine jv_iadd rfl rfl ⟨by omega, by omega⟩ ?_
      refine jv_xaload (ln := len) (f := sc) rfl rfl ⟨by decide, by decide⟩ rfl ⟨by omega, by omega⟩ ?_
      refine jv_aload_n rfl rfl rfl (by decide) ?_
      refine jv_iload_n rfl rfl rfl ?_
      refine jv_iconst rfl rfl ?_
      refine jv_iadd rfl rfl ⟨by omega, by omega⟩ ?_
      refine jv_xaload (ln := len) (f := sc) rfl rfl ⟨by decide, by decide⟩ rfl ⟨by omega, by omega⟩ ?_
      refine jv_aload_n rfl rfl rfl (by decide) ?_
      refine jv_iload_n rfl rfl rfl ?_
      refine jv_iconst rfl rfl ?_
      refine jv_iadd rfl rfl ⟨by omega, by omega⟩ ?_
      refine jv_xaload (ln := len) (f := sc) rfl rfl ⟨by decide, by decide⟩ rfl ⟨by omega, by omega⟩ ?_
      refine jv_aload_n rfl rfl rfl (by decide) ?_
      refine jv_iload_n rfl rfl rfl ?_
      refine jv_iconst rfl rfl ?_
      refine jv_iadd rfl rfl ⟨by omega, by omega⟩ ?_
      refine jv_xaload (ln := len) (f := sc) rfl rfl ⟨by decide, by decide⟩ rfl ⟨by omega, by omega⟩ ?_
      refine jv_callV5 rfl rfl rfl rfl ⟨by decide, rfl⟩ (Nat.le_of_ble_eq_true rfl) (jv_mono hv (fun v2 μ2 hv2 => ?_))
      obtain ⟨rfl, hI2⟩ := hv2
      show jV _ _ jm_p_L_law _ 150 [some (.inr (.inr (-2))), some (.inr (.inr 0)), some (.inr (.inr 94)), some (.inl x)] [.inl r, .inl r] μ2
      refine jv_icmp_eqT rfl rfl rfl ?_
      exact hend μ2 hI2
    · refine jv_aload_n rfl rfl rfl (by decide) ?_
      refine jv_aload_n rfl rfl rfl (by decide) ?_
      refine jv_iload_n rfl rfl rfl ?_
      refine jv_iconst rfl rfl ?_
      refine jv_iadd rfl rfl ⟨by omega, by omega⟩ ?_
      refine jv_xaload (ln := len) (f := sc) rfl rfl ⟨by decide, by decide⟩ rfl ⟨by omega, by omega⟩ ?_
      refine jv_callV1 rfl rfl rfl rfl ⟨by decide, rfl⟩ (Nat.le_of_ble_eq_true rfl) (jv_mono (g3 _ (hsc _) μ hI) (fun v μ1 hv => ?_))
      obtain ⟨r, rfl, hv⟩ := hv
      show jV _ _ jm_p_L_law _ 160 [some (.inr (.inr (-2))), some (.inr (.inr 0)), some (.inr (.inr 94)), some (.inl x)] [.inl r] μ1
      refine jv_aload_n rfl rfl rfl (by decide) ?_
      refine jv_aload_n rfl rfl rfl (by decide) ?_
      refine jv_iload_n rfl rfl rfl ?_
      refine jv_iconst rfl rfl ?_
      refine jv_iadd rfl rfl ⟨by omega, by omega⟩ ?_
      refine jv_xaload (ln := len) (f := sc) rfl rfl ⟨by decide, by decide⟩ rfl ⟨by omega, by omega⟩ ?_
      refine jv_callV1 rfl rfl rfl rfl ⟨by decide, rfl⟩ (Nat.le_of_ble_eq_true rfl) (jv_mono hv (fun v2 μ2 hv2 => ?_))
      obtain ⟨rfl, hI2⟩ := hv2
      show jV _ _ jm_p_L_law _ 167 [some (.inr (.inr (-2))), some (.inr (.inr 0)), some (.inr (.inr 94)), some (.inl x)] [.inl r, .inl r] μ2
      refine jv_icmp_eqT rfl rfl rfl ?_
      exact hend μ2 hI2
    · refine jv_aload_n rfl rfl rfl (by decide) ?_
      refine jv_aload_n rfl rfl rfl (by decide) ?_
      refine jv_iload_n rfl rfl rfl ?_
      refine jv_iconst rfl rfl ?_
      refine jv_iadd rfl rfl ⟨by omega, by omega⟩ ?_
      refine jv_xaload (ln := len) (f := sc) rfl rfl ⟨by decide, by decide⟩ rfl ⟨by omega, by omega⟩ ?_
      refine jv_callV1 rfl rfl rfl rfl ⟨by decide, rfl⟩ (Nat.le_of_ble_eq_true rfl) (jv_mono (g4 _ (hsc _) μ hI) (fun v μ1 hv => ?_))
      obtain ⟨r, rfl, hv⟩ := hv
      show jV _ _ jm_p_L_law _ 177 [some (.inr (.inr (-2))), some (.inr (.inr 0)), some (.inr (.inr 94)), some (.inl x)] [.inl r] μ1
      refine jv_aload_n rfl rfl rfl (by decide) ?_
      refine jv_aload_n rfl rfl rfl (by decide) ?_
      refine jv_iload_n rfl rfl rfl ?_
      refine jv_iconst rfl rfl ?_
      refine jv_iadd rfl rfl ⟨by omega, by omega⟩ ?_
      refine jv_xaload (ln := len) (f := sc) rfl rfl ⟨by decide, by decide⟩ rfl ⟨by omega, by omega⟩ ?_
      refine jv_callV1 rfl rfl rfl rfl ⟨by decide, rfl⟩ (Nat.le_of_ble_eq_true rfl) (jv_mono hv (fun v2 μ2 hv2 => ?_))
      obtain ⟨rfl, hI2⟩ := hv2
      show jV _ _ jm_p_L_law _ 184 [some (.inr (.inr (-2))), some (.inr (.inr 0)), some (.inr (.inr 94)), some (.inl x)] [.inl r, .inl r] μ2
      refine jv_icmp_eqT rfl rfl rfl ?_
      exact hend μ2 hI2
    · refine jv_aload_n rfl rfl rfl (by decide) ?_
      refine jv_callV0 rfl rfl rfl rfl ⟨by decide, rfl⟩ (Nat.le_of_ble_eq_true rfl) (jv_mono (g5  μ hI) (fun v μ1 hv => ?_))
      obtain ⟨r, rfl, hv⟩ := hv
      show jV _ _ jm_p_L_law _ 189 [some (.inr (.inr (-2))), some (.inr (.inr 0)), some (.inr (.inr 94)), some (.inl x)] [.inl r] μ1
      refine jv_aload_n rfl rfl rfl (by decide) ?_
      refine jv_callV0 rfl rfl rfl rfl ⟨by decide, rfl⟩ (Nat.le_of_ble_eq_true rfl) (jv_mono hv (fun v2 μ2 hv2 => ?_))
      obtain ⟨rfl, hI2⟩ := hv2
      show jV _ _ jm_p_L_law _ 191 [some (.inr (.inr (-2))), some (.inr (.inr 0)), some (.inr (.inr 94)), some (.inl x)] [.inl r, .inl r] μ2
      refine jv_icmp_eqT rfl rfl rfl ?_
      exact hend μ2 hI2
    · refine jv_aload_n rfl rfl rfl (by decide) ?_
      refine jv_callV0 rfl rfl rfl rfl ⟨by decide, rfl⟩ (Nat.le_of_ble_eq_true rfl) (jv_mono (g6  μ hI) (fun v μ1 hv => ?_))
      obtain ⟨r, rfl, hv⟩ := hv
      show jV _ _ jm_p_L_law _ 196 [some (.inr (.inr (-2))), some (.inr (.inr 0)), some (.inr (.inr 94)), some (.inl x)] [.inl r] μ1
      refine jv_aload_n rfl rfl rfl (by decide) ?_
      refine jv_callV0 rfl rfl rfl rfl ⟨by decide, rfl⟩ (Nat.le_of_ble_eq_true rfl) (jv_mono hv (fun v2 μ2 hv2 => ?_))
      obtain ⟨rfl, hI2⟩ := hv2
      show jV _ _ jm_p_L_law _ 198 [some (.inr (.inr (-2))), some (.inr (.inr 0)), some (.inr (.inr 94)), some (.inl x)] [.inl r, .inl r] μ2
      refine jv_icmp_eqT rfl rfl rfl ?_
      exact hend μ2 hI2
    · refine jv_aload_n rfl rfl rfl (by decide) ?_
      refine jv_aload_n rfl rfl rfl (by decide) ?_
      refine jv_iload_n rfl rfl rfl ?_
      refine jv_iconst rfl rfl ?_
      refine jv_iadd rfl rfl ⟨by omega, by omega⟩ ?_
      refine jv_xaload (ln := len) (f := sc) rfl rfl ⟨by decide, by decide⟩ rfl ⟨by omega, by omega⟩ ?_
      refine jv_callV1 rfl rfl rfl rfl ⟨by decide, rfl⟩ (Nat.le_of_ble_eq_true rfl) (jv_mono (g7 _ (hsc _) μ hI) (fun v μ1 hv => ?_))
      obtain ⟨r, rfl, hv⟩ := hv
      show jV _ _ jm_p_L_law _ 208 [some (.inr (.inr (-2))), some (.inr (.inr 0)), some (.inr (.inr 94)), some (.inl x)] [.inl r] μ1
      refine jv_aload_n rfl rfl rfl (by decide) ?_
      refine jv_aload_n rfl rfl rfl (by decide) ?_
      refine jv_iload_n rfl rfl rfl ?_
      refine jv_iconst rfl rfl ?_
      refine jv_iadd rfl rfl ⟨by omega, by omega⟩ ?_
      refine jv_xaload (ln := len) (f := sc) rfl rfl ⟨by decide, by decide⟩ rfl ⟨by omega, by omega⟩ ?_
      refine jv_callV1 rfl rfl rfl rfl ⟨by decide, rfl⟩ (Nat.le_of_ble_eq_true rfl) (jv_mono hv (fun v2 μ2 hv2 => ?_))
      obtain ⟨rfl, hI2⟩ := hv2
      show jV _ _ jm_p_L_law _ 215 [some (.inr (.inr (-2))), some (.inr (.inr 0)), some (.inr (.inr 94)), some (.inl x)] [.inl r, .inl r] μ2
      refine jv_icmp_eqT rfl rfl rfl ?_
      exact hend μ2 hI2
    · refine jv_aload_n rfl rfl rfl (by decide) ?_
      refine jv_aload_n rfl rfl rfl (by decide) ?_
      refine jv_iload_n rfl rfl rfl ?_
      refine jv_iconst rfl rfl ?_
      refine jv_iadd rfl rfl ⟨by omega, by omega⟩ ?_
      refine jv_xaload (ln := len) (f := sc) rfl rfl ⟨by decide, by decide⟩ rfl ⟨by omega, by omega⟩ ?_
      refine jv_callV1 rfl rfl rfl rfl ⟨by decide, rfl⟩ (Nat.le_of_ble_eq_true rfl) (jv_mono (g8 _ (hsc _) μ hI) (fun v μ1 hv => ?_))
      obtain ⟨r, rfl, hv⟩ := hv
      show jV _ _ jm_p_L_law _ 225 [some (.inr (.inr (-2))), some (.inr (.inr 0)), some (.inr (.inr 94)), some (.inl x)] [.inl r] μ1
      refine jv_aload_n rfl rfl rfl (by decide) ?_
      refine jv_aload_n rfl rfl rfl (by decide) ?_
      refine jv_iload_n rfl rfl rfl ?_
      refine jv_iconst rfl rfl ?_
      refine jv_iadd rfl rfl ⟨by omega, by omega⟩ ?_
      refine jv_xaload (ln := len) (f := sc) rfl rfl ⟨by decide, by decide⟩ rfl ⟨by omega, by omega⟩ ?_
      refine jv_callV1 rfl rfl rfl rfl ⟨by decide, rfl⟩ (Nat.le_of_ble_eq_true rfl) (jv_mono hv (fun v2 μ2 hv2 => ?_))
      obtain ⟨rfl, hI2⟩ := hv2
      show jV _ _ jm_p_L_law _ 232 [some (.inr (.inr (-2))), some (.inr (.inr 0)), some (.inr (.inr 94)), some (.inl x)] [.inl r, .inl r] μ2
      refine jv_icmp_eqT rfl rfl rfl ?_
      exact hend μ2 hI2
    · refine jv_aload_n rfl rfl rfl (by decide) ?_
      refine jv_aload_n rfl rfl rfl (by decide) ?_
      refine jv_iload_n rfl rfl rfl ?_
      refine jv_iconst rfl rfl ?_
      refine jv_iadd rfl rfl ⟨by omega, by omega⟩ ?_
      refine jv_xaload (ln := len) (f := sc) rfl rfl ⟨by decide, by decide⟩ rfl ⟨by omega, by omega⟩ ?_
      refine jv_callV1 rfl rfl rfl rfl ⟨by decide, rfl⟩ (Nat.le_of_ble_eq_true rfl) (jv_mono (g9 _ (hsc _) μ hI) (fun v μ1 hv => ?_))
      obtain ⟨r, rfl, hv⟩ := hv
      show jV _ _ jm_p_L_law _ 242 [some (.inr (.inr (-2))), some (.inr (.inr 0)), some (.inr (.inr 94)), some (.inl x)] [.inl r] μ1
      refine jv_aload_n rfl rfl rfl (by decide) ?_
      refine jv_aload_n rfl rfl rfl (by decide) ?_
      refine jv_iload_n rfl rfl rfl ?_
      refine jv_iconst rfl rfl ?_
      refine jv_iadd rfl rfl ⟨by omega, by omega⟩ ?_
      refine jv_xaload (ln := len) (f := sc) rfl rfl ⟨by decide, by decide⟩ rfl ⟨by omega, by omega⟩ ?_
      refine jv_callV1 rfl rfl rfl rfl ⟨by decide, rfl⟩ (Nat.le_of_ble_eq_true rfl) (jv_mono hv (fun v2 μ2 hv2 => ?_))
      obtain ⟨rfl, hI2⟩ := hv2
      show jV _ _ jm_p_L_law _ 249 [some (.inr (.inr (-2))), some (.inr (.inr 0)), some (.inr (.inr 94)), some (.inl x)] [.inl r, .inl r] μ2
      refine jv_icmp_eqT rfl rfl rfl ?_
      exact hend μ2 hI2
    · refine jv_aload_n rfl rfl rfl (by decide) ?_
      refine jv_aload_n rfl rfl rfl (by decide) ?_
      refine jv_iload_n rfl rfl rfl ?_
      refine jv_iconst rfl rfl ?_
      refine jv_iadd rfl rfl ⟨by omega, by omega⟩ ?_
      refine jv_xaload (ln := len) (f := sc) rfl rfl ⟨by decide, by decide⟩ rfl ⟨by omega, by omega⟩ ?_
      refine jv_callV1 rfl rfl rfl rfl ⟨by decide, rfl⟩ (Nat.le_of_ble_eq_true rfl) (jv_mono (g10 _ (hsc _) μ hI) (fun v μ1 hv => ?_))
      obtain ⟨r, rfl, hv⟩ := hv
      show jV _ _ jm_p_L_law _ 259 [some (.inr (.inr (-2))), some (.inr (.inr 0)), some (.inr (.inr 94)), some (.inl x)] [.inl r] μ1
      refine jv_aload_n rfl rfl rfl (by decide) ?_
      refine jv_aload_n rfl rfl rfl (by decide) ?_
      refine jv_iload_n rfl rfl rfl ?_
      refine jv_iconst rfl rfl ?_
      refine jv_iadd rfl rfl ⟨by omega, by omega⟩ ?_
      refine jv_xaload (ln := len) (f := sc) rfl rfl ⟨by decide, by decide⟩ rfl ⟨by omega, by omega⟩ ?_
      refine jv_callV1 rfl rfl rfl rfl ⟨by decide, rfl⟩ (Nat.le_of_ble_eq_true rfl) (jv_mono hv (fun v2 μ2 hv2 => ?_))
      obtain ⟨rfl, hI2⟩ := hv2
      show jV _ _ jm_p_L_law _ 266 [some (.inr (.inr (-2))), some (.inr (.inr 0)), some (.inr (.inr 94)), some (.inl x)] [.inl r, .inl r] μ2
      refine jv_icmp_eqT rfl rfl rfl ?_
      exact hend μ2 hI2
    · refine jv_aload_n rfl rfl rfl (by decide) ?_
      refine jv_callV0 rfl rfl rfl rfl ⟨by decide, rfl⟩ (Nat.le_of_ble_eq_true rfl) (jv_mono (g11  μ hI) (fun v μ1 hv => ?_))
      obtain ⟨r, rfl, hv⟩ := hv
      show jV _ _ jm_p_L_law _ 271 [some (.inr (.inr (-2))), some (.inr (.inr 0)), some (.inr (.inr 94)), some (.inl x)] [.inl r] μ1
      refine jv_aload_n rfl rfl rfl (by decide) ?_
      refine jv_callV0 rfl rfl rfl rfl ⟨by decide, rfl⟩ (Nat.le_of_ble_eq_true rfl) (jv_mono hv (fun v2 μ2 hv2 => ?_))
      obtain ⟨rfl, hI2⟩ := hv2
      show jV _ _ jm_p_L_law _ 273 [some (.inr (.inr (-2))), some (.inr (.inr 0)), some (.inr (.inr 94)), some (.inl x)] [.inl r, .inl r] μ2
      refine jv_icmp_eqT rfl rfl rfl ?_
      exact hend μ2 hI2
    · refine jv_aload_n rfl rfl rfl (by decide) ?_
      refine jv_aload_n rfl rfl rfl (by decide) ?_
      refine jv_iload_n rfl rfl rfl ?_
      refine jv_iconst rfl rfl ?_
      refine jv_iadd rfl rfl ⟨by omega, by omega⟩ ?_
      refine jv_xaload (ln := len) (f := sc) rfl rfl ⟨by decide, by decide⟩ rfl ⟨by omega, by omega⟩ ?_
      refine jv_aload_n rfl rfl rfl (by decide) ?_
      refine jv_iload_n rfl rfl rfl ?_
      refine jv_iconst rfl rfl ?_
      refine jv_iadd rfl rfl ⟨by omega, by omega⟩ ?_
      refine jv_xaload (ln := len) (f := sc) rfl rfl ⟨by decide, by decide⟩ rfl ⟨by omega, by omega⟩ ?_
      refine jv_callV2 rfl rfl rfl rfl ⟨by decide, rfl⟩ (Nat.le_of_ble_eq_true rfl) (jv_mono (g12 _ _ (hsc _) (hsc _) μ hI) (fun v μ1 hv => ?_))
      obtain ⟨r, rfl, hv⟩ := hv
      show jV _ _ jm_p_L_law _ 288 [some (.inr (.inr (-2))), some (.inr (.inr 0)), some (.inr (.inr 94)), some (.inl x)] [.inl r] μ1
      refine jv_aload_n rfl rfl rfl (by decide) ?_
      refine jv_aload_n rfl rfl rfl (by decide) ?_
      refine jv_iload_n rfl rfl rfl ?_
      refine jv_iconst rfl rfl ?_
      refine jv_iadd rfl rfl ⟨by omega, by omega⟩ ?_
      refine jv_xaload (ln := len) (f := sc) rfl rfl ⟨by decide, by decide⟩ rfl ⟨by omega, by omega⟩ ?_
      refine jv_aload_n rfl rfl rfl (by decide) ?_
      refine jv_iload_n rfl rfl rfl ?_
      refine jv_iconst rfl rfl ?_
      refine jv_iadd rfl rfl ⟨by omega, by omega⟩ ?_
      refine jv_xaload (ln := len) (f := sc) rfl rfl ⟨by decide, by decide⟩ rfl ⟨by omega, by omega⟩ ?_
      refine jv_callV2 rfl rfl rfl rfl ⟨by decide, rfl⟩ (Nat.le_of_ble_eq_true rfl) (jv_mono hv (fun v2 μ2 hv2 => ?_))
      obtain ⟨rfl, hI2⟩ := hv2
      show jV _ _ jm_p_L_law _ 300 [some (.inr (.inr (-2))), some (.inr (.inr 0)), some (.inr (.inr 94)), some (.inl x)] [.inl r, .inl r] μ2
      refine jv_icmp_eqT rfl rfl rfl ?_
      exact hend μ2 hI2
    · refine jv_aload_n rfl rfl rfl (by decide) ?_
      refine jv_aload_n rfl rfl rfl (by decide) ?_
      refine jv_iload_n rfl rfl rfl ?_
      refine jv_iconst rfl rfl ?_
      refine jv_iadd rfl rfl ⟨by omega, by omega⟩ ?_
      refine jv_xaload (ln := len) (f := sc) rfl rfl ⟨by decide, by decide⟩ rfl ⟨by omega, by omega⟩ ?_
      refine jv_aload_n rfl rfl rfl (by decide) ?_
      refine jv_iload_n rfl rfl rfl ?_
      refine jv_iconst rfl rfl ?_
      refine jv_iadd rfl rfl ⟨by omega, by omega⟩ ?_
      refine jv_xaload (ln := len) (f := sc) rfl rfl ⟨by decide, by decide⟩ rfl ⟨by omega, by omega⟩ ?_
      refine jv_callV2 rfl rfl rfl rfl ⟨by decide, rfl⟩ (Nat.le_of_ble_eq_true rfl) (jv_mono (g13 _ _ (hsc _) (hsc _) μ hI) (fun v μ1 hv => ?_))
      obtain ⟨r, rfl, hv⟩ := hv
      show jV _ _ jm_p_L_law _ 315 [some (.inr (.inr (-2))), some (.inr (.inr 0)), some (.inr (.inr 94)), some (.inl x)] [.inl r] μ1
      refine jv_aload_n rfl rfl rfl (by decide) ?_
      refine jv_aload_n rfl rfl rfl (by decide) ?_
      refine jv_iload_n rfl rfl rfl ?_
      refine jv_iconst rfl rfl ?_
      refine jv_iadd rfl rfl ⟨by omega, by omega⟩ ?_
      refine jv_xaload (ln := len) (f := sc) rfl rfl ⟨by decide, by decide⟩ rfl ⟨by omega, by omega⟩ ?_
      refine jv_aload_n rfl rfl rfl (by decide) ?_
      refine jv_iload_n rfl rfl rfl ?_
      refine jv_iconst rfl rfl ?_
      refine jv_iadd rfl rfl ⟨by omega, by omega⟩ ?_
      refine jv_xaload (ln := len) (f := sc) rfl rfl ⟨by decide, by decide⟩ rfl ⟨by omega, by omega⟩ ?_
      refine jv_callV2 rfl rfl rfl rfl ⟨by decide, rfl⟩ (Nat.le_of_ble_eq_true rfl) (jv_mono hv (fun v2 μ2 hv2 => ?_))
      obtain ⟨rfl, hI2⟩ := hv2
      show jV _ _ jm_p_L_law _ 327 [some (.inr (.inr (-2))), some (.inr (.inr 0)), some (.inr (.inr 94)), some (.inl x)] [.inl r, .inl r] μ2
      refine jv_icmp_eqT rfl rfl rfl ?_
      exact hend μ2 hI2
    · refine jv_aload_n rfl rfl rfl (by decide) ?_
      refine jv_aload_n rfl rfl rfl (by decide) ?_
      refine jv_iload_n rfl rfl rfl ?_
      refine jv_iconst rfl rfl ?_
      refine jv_iadd rfl rfl ⟨by omega, by omega⟩ ?_
      refine jv_xaload (ln := len) (f := sc) rfl rfl ⟨by decide, by decide⟩ rfl ⟨by omega, by omega⟩ ?_
      refine jv_aload_n rfl rfl rfl (by decide) ?_
      refine jv_iload_n rfl rfl rfl ?_
      refine jv_iconst rfl rfl ?_
      refine jv_iadd rfl rfl ⟨by omega, by omega⟩ ?_
      refine jv_xaload (ln := len) (f := sc) rfl rfl ⟨by decide, by decide⟩ rfl ⟨by omega, by omega⟩ ?_
      refine jv_callV2 rfl rfl rfl rfl ⟨by decide, rfl⟩ (Nat.le_of_ble_eq_true rfl) (jv_mono (g14 _ _ (hsc _) (hsc _) μ hI) (fun v μ1 hv => ?_))
      obtain ⟨r, rfl, hv⟩ := hv
      show jV _ _ jm_p_L_law _ 342 [some (.inr (.inr (-2))), some (.inr (.inr 0)), some (.inr (.inr 94)), some (.inl x)] [.inl r] μ1
      refine jv_aload_n rfl rfl rfl (by decide) ?_
      refine jv_aload_n rfl rfl rfl (by decide) ?_
      refine jv_iload_n rfl rfl rfl ?_
      refine jv_iconst rfl rfl ?_
      refine jv_iadd rfl rfl ⟨by omega, by omega⟩ ?_
      refine jv_xaload (ln := len) (f := sc) rfl rfl ⟨by decide, by decide⟩ rfl ⟨by omega, by omega⟩ ?_
      refine jv_aload_n rfl rfl rfl (by decide) ?_
      refine jv_iload_n rfl rfl rfl ?_
      refine jv_iconst rfl rfl ?_
      refine jv_iadd rfl rfl ⟨by omega, by omega⟩ ?_
      refine jv_xaload (ln := len) (f := sc) rfl rfl ⟨by decide, by decide⟩ rfl ⟨by omega, by omega⟩ ?_
      refine jv_callV2 rfl rfl rfl rfl ⟨by decide, rfl⟩ (Nat.le_of_ble_eq_true rfl) (jv_mono hv (fun v2 μ2 hv2 => ?_))
      obtain ⟨rfl, hI2⟩ := hv2
      show jV _ _ jm_p_L_law _ 354 [some (.inr (.inr (-2))), some (.inr (.inr 0)), some (.inr (.inr 94)), some (.inl x)] [.inl r, .inl r] μ2
      refine jv_icmp_eqT rfl rfl rfl ?_
      exact hend μ2 hI2
    · refine jv_aload_n rfl rfl rfl (by decide) ?_
      refine jv_aload_n rfl rfl rfl (by decide) ?_
      refine jv_iload_n rfl rfl rfl ?_
      refine jv_iconst rfl rfl ?_
      refine jv_iadd rfl rfl ⟨by omega, by omega⟩ ?_
      refine jv_xaload (ln := len) (f := sc) rfl rfl ⟨by decide, by decide⟩ rfl ⟨by omega, by omega⟩ ?_
      refine jv_aload_n rfl rfl rfl (by decide) ?_
      refine jv_iload_n rfl rfl rfl ?_
      refine jv_iconst rfl rfl ?_
      refine jv_iadd rfl rfl ⟨by omega, by omega⟩ ?_
      refine jv_xaload (ln := len) (f := sc) rfl rfl ⟨by decide, by decide⟩ rfl ⟨by omega, by omega⟩ ?_
      refine jv_callV2 rfl rfl rfl rfl ⟨by decide, rfl⟩ (Nat.le_of_ble_eq_true rfl) (jv_mono (g15 _ _ (hsc _) (hsc _) μ hI) (fun v μ1 hv => ?_))
      obtain ⟨r, rfl, hv⟩ := hv
      show jV _ _ jm_p_L_law _ 369 [some (.inr (.inr (-2))), some (.inr (.inr 0)), some (.inr (.inr 94)), some (.inl x)] [.inl r] μ1
      refine jv_aload_n rfl rfl rfl (by decide) ?_
      refine jv_aload_n rfl rfl rfl (by decide) ?_
      refine jv_iload_n rfl rfl rfl ?_
      refine jv_iconst rfl rfl ?_
      refine jv_iadd rfl rfl ⟨by omega, by omega⟩ ?_
      refine jv_xaload (ln := len) (f := sc) rfl rfl ⟨by decide, by decide⟩ rfl ⟨by omega, by omega⟩ ?_
      refine jv_aload_n rfl rfl rfl (by decide) ?_
      refine jv_iload_n rfl rfl rfl ?_
      refine jv_iconst rfl rfl ?_
      refine jv_iadd rfl rfl ⟨by omega, by omega⟩ ?_
      refine jv_xaload (ln := len) (f := sc) rfl rfl ⟨by decide, by decide⟩ rfl ⟨by omega, by omega⟩ ?_
      refine jv_callV2 rfl rfl rfl rfl ⟨by decide, rfl⟩ (Nat.le_of_ble_eq_true rfl) (jv_mono hv (fun v2 μ2 hv2 => ?_))
      obtain ⟨rfl, hI2⟩ := hv2
      show jV _ _ jm_p_L_law _ 381 [some (.inr (.inr (-2))), some (.inr (.inr 0)), some (.inr (.inr 94)), some (.inl x)] [.inl r, .inl r] μ2
      refine jv_icmp_eqT rfl rfl rfl ?_
      exact hend μ2 hI2
    · refine jv_aload_n rfl rfl rfl (by decide) ?_
      refine jv_aload_n rfl rfl rfl (by decide) ?_
      refine jv_iload_n rfl rfl rfl ?_
      refine jv_iconst rfl rfl ?_
      refine jv_iadd rfl rfl ⟨by omega, by omega⟩ ?_
      refine jv_xaload (ln := len) (f := sc) rfl rfl ⟨by decide, by decide⟩ rfl ⟨by omega, by omega⟩ ?_
      refine jv_aload_n rfl rfl rfl (by decide) ?_
      refine jv_iload_n rfl rfl rfl ?_
      refine jv_iconst rfl rfl ?_
      refine jv_iadd rfl rfl ⟨by omega, by omega⟩ ?_
      refine jv_xaload (ln := len) (f := sc) rfl rfl ⟨by decide, by decide⟩ rfl ⟨by omega, by omega⟩ ?_
      refine jv_callV2 rfl rfl rfl rfl ⟨by decide, rfl⟩ (Nat.le_of_ble_eq_true rfl) (jv_mono (g16 _ _ (hsc _) (hsc _) μ hI) (fun v μ1 hv => ?_))
      obtain ⟨r, rfl, hv⟩ := hv
      show jV _ _ jm_p_L_law _ 396 [some (.inr (.inr (-2))), some (.inr (.inr 0)), some (.inr (.inr 94)), some (.inl x)] [.inl r] μ1
      refine jv_aload_n rfl rfl rfl (by decide) ?_
      refine jv_aload_n rfl rfl rfl (by decide) ?_
      refine jv_iload_n rfl rfl rfl ?_
      refine jv_iconst rfl rfl ?_
      refine jv_iadd rfl rfl ⟨by omega, by omega⟩ ?_
      refine jv_xaload (ln := len) (f := sc) rfl rfl ⟨by decide, by decide⟩ rfl ⟨by omega, by omega⟩ ?_
      refine jv_aload_n rfl rfl rfl (by decide) ?_
      refine jv_iload_n rfl rfl rfl ?_
      refine jv_iconst rfl rfl ?_
      refine jv_iadd rfl rfl ⟨by omega, by omega⟩ ?_
      refine jv_xaload (ln := len) (f := sc) rfl rfl ⟨by decide, by decide⟩ rfl ⟨by omega, by omega⟩ ?_
      refine jv_callV2 rfl rfl rfl rfl ⟨by decide, rfl⟩ (Nat.le_of_ble_eq_true rfl) (jv_mono hv (fun v2 μ2 hv2 => ?_))
      obtain ⟨rfl, hI2⟩ := hv2
      show jV _ _ jm_p_L_law _ 408 [some (.inr (.inr (-2))), some (.inr (.inr 0)), some (.inr (.inr 94)), some (.inl x)] [.inl r, .inl r] μ2
      refine jv_icmp_eqT rfl rfl rfl ?_
      exact hend μ2 hI2
    · refine jv_aload_n rfl rfl rfl (by decide) ?_
      refine jv_aload_n rfl rfl rfl (by decide) ?_
      refine jv_iload_n rfl rfl rfl ?_
      refine jv_iconst rfl rfl ?_
      refine jv_iadd rfl rfl ⟨by omega, by omega⟩ ?_
      refine jv_xaload (ln := len) (f := sc) rfl rfl ⟨by decide, by decide⟩ rfl ⟨by omega, by omega⟩ ?_
      refine jv_callV1 rfl rfl rfl rfl ⟨by decide, rfl⟩ (Nat.le_of_ble_eq_true rfl) (jv_mono (g17 _ (hsc _) μ hI) (fun v μ1 hv => ?_))
      obtain ⟨r, rfl, hv⟩ := hv
      show jV _ _ jm_p_L_law _ 418 [some (.inr (.inr (-2))), some (.inr (.inr 0)), some (.inr (.inr 94)), some (.inl x)] [.inl r] μ1
      refine jv_aload_n rfl rfl rfl (by decide) ?_
      refine jv_aload_n rfl rfl rfl (by decide) ?_
      refine jv_iload_n rfl rfl rfl ?_
      refine jv_iconst rfl rfl ?_
      refine jv_iadd rfl rfl ⟨by omega, by omega⟩ ?_
      refine jv_xaload (ln := len) (f := sc) rfl rfl ⟨by decide, by decide⟩ rfl ⟨by omega, by omega⟩ ?_
      refine jv_callV1 rfl rfl rfl rfl ⟨by decide, rfl⟩ (Nat.le_of_ble_eq_true rfl) (jv_mono hv (fun v2 μ2 hv2 => ?_))
      obtain ⟨rfl, hI2⟩ := hv2
      show jV _ _ jm_p_L_law _ 425 [some (.inr (.inr (-2))), some (.inr (.inr 0)), some (.inr (.inr 94)), some (.inl x)] [.inl r, .inl r] μ2
      refine jv_icmp_eqT rfl rfl rfl ?_
      exact hend μ2 hI2
    · refine jv_aload_n rfl rfl rfl (by decide) ?_
      refine jv_callV0 rfl rfl rfl rfl ⟨by decide, rfl⟩ (Nat.le_of_ble_eq_true rfl) (jv_mono (g18  μ hI) (fun v μ1 hv => ?_))
      obtain ⟨r, rfl, hv⟩ := hv
      show jV _ _ jm_p_L_law _ 430 [some (.inr (.inr (-2))), some (.inr (.inr 0)), some (.inr (.inr 94)), some (.inl x)] [.inl r] μ1
      refine jv_aload_n rfl rfl rfl (by decide) ?_
      refine jv_callV0 rfl rfl rfl rfl ⟨by decide, rfl⟩ (Nat.le_of_ble_eq_true rfl) (jv_mono hv (fun v2 μ2 hv2 => ?_))
      obtain ⟨rfl, hI2⟩ := hv2
      show jV _ _ jm_p_L_law _ 432 [some (.inr (.inr (-2))), some (.inr (.inr 0)), some (.inr (.inr 94)), some (.inl x)] [.inl r, .inl r] μ2
      refine jv_icmp_eqT rfl rfl rfl ?_
      exact hend μ2 hI2
    · refine jv_aload_n rfl rfl rfl (by decide) ?_
      refine jv_aload_n rfl rfl rfl (by decide) ?_
      refine jv_iload_n rfl rfl rfl ?_
      refine jv_iconst rfl rfl ?_
      refine jv_iadd rfl rfl ⟨by omega, by omega⟩ ?_
      refine jv_xaload (ln := len) (f := sc) rfl rfl ⟨by decide, by decide⟩ rfl ⟨by omega, by omega⟩ ?_
      refine jv_callV1 rfl rfl rfl rfl ⟨by decide, rfl⟩ (Nat.le_of_ble_eq_true rfl) (jv_mono (g19 _ (hsc _) μ hI) (fun v μ1 hv => ?_))
      obtain ⟨r, rfl, hv⟩ := hv
      show jV _ _ jm_p_L_law _ 442 [some (.inr (.inr (-2))), some (.inr (.inr 0)), some (.inr (.inr 94)), some (.inl x)] [.inl r] μ1
      refine jv_aload_n rfl rfl rfl (by decide) ?_
      refine jv_aload_n rfl rfl rfl (by decide) ?_
      refine jv_iload_n rfl rfl rfl ?_
      refine jv_iconst rfl rfl ?_
      refine jv_iadd rfl rfl ⟨by omega, by omega⟩ ?_
      refine jv_xaload (ln := len) (f := sc) rfl rfl ⟨by decide, by decide⟩ rfl ⟨by omega, by omega⟩ ?_
      refine jv_callV1 rfl rfl rfl rfl ⟨by decide, rfl⟩ (Nat.le_of_ble_eq_true rfl) (jv_mono hv (fun v2 μ2 hv2 => ?_))
      obtain ⟨rfl, hI2⟩ := hv2
      show jV _ _ jm_p_L_law _ 449 [some (.inr (.inr (-2))), some (.inr (.inr 0)), some (.inr (.inr 94)), some (.inl x)] [.inl r, .inl r] μ2
      refine jv_icmp_eqT rfl rfl rfl ?_
      exact hend μ2 hI2
    · refine jv_aload_n rfl rfl rfl (by decide) ?_
      refine jv_aload_n rfl rfl rfl (by decide) ?_
      refine jv_iload_n rfl rfl rfl ?_
      refine jv_iconst rfl rfl ?_
      refine jv_iadd rfl rfl ⟨by omega, by omega⟩ ?_
      refine jv_xaload (ln := len) (f := sc) rfl rfl ⟨by decide, by decide⟩ rfl ⟨by omega, by omega⟩ ?_
      refine jv_callV1 rfl rfl rfl rfl ⟨by decide, rfl⟩ (Nat.le_of_ble_eq_true rfl) (jv_mono (g20 _ (hsc _) μ hI) (fun v μ1 hv => ?_))
      obtain ⟨r, rfl, hv⟩ := hv
      show jV _ _ jm_p_L_law _ 459 [some (.inr (.inr (-2))), some (.inr (.inr 0)), some (.inr (.inr 94)), some (.inl x)] [.inl r] μ1
      refine jv_aload_n rfl rfl rfl (by decide) ?_
      refine jv_aload_n rfl rfl rfl (by decide) ?_
      refine jv_iload_n rfl rfl rfl ?_
      refine jv_iconst rfl rfl ?_
      refine jv_iadd rfl rfl ⟨by omega, by omega⟩ ?_
      refine jv_xaload (ln := len) (f := sc) rfl rfl ⟨by decide, by decide⟩ rfl ⟨by omega, by omega⟩ ?_
      refine jv_callV1 rfl rfl rfl rfl ⟨by decide, rfl⟩ (Nat.le_of_ble_eq_true rfl) (jv_mono hv (fun v2 μ2 hv2 => ?_))
      obtain ⟨rfl, hI2⟩ := hv2
      show jV _ _ jm_p_L_law _ 466 [some (.inr (.inr (-2))), some (.inr (.inr 0)), some (.inr (.inr 94)), some (.inl x)] [.inl r, .inl r] μ2
      refine jv_icmp_eqT rfl rfl rfl ?_
      exact hend μ2 hI2
    · refine jv_aload_n rfl rfl rfl (by decide) ?_
      refine jv_aload_n rfl rfl rfl (by decide) ?_
      refine jv_iload_n rfl rfl rfl ?_
      refine jv_iconst rfl rfl ?_
      refine jv_iadd rfl rfl ⟨by omega, by omega⟩ ?_
      refine jv_xaload (ln := len) (f := sc) rfl rfl ⟨by decide, by decide⟩ rfl ⟨by omega, by omega⟩ ?_
      refine jv_aload_n rfl rfl rfl (by decide) ?_
      refine jv_iload_n rfl rfl rfl ?_
      refine jv_iconst rfl rfl ?_
      refine jv_iadd rfl rfl ⟨by omega, by omega⟩ ?_
      refine jv_xaload (ln := len) (f := sc) rfl rfl ⟨by decide, by decide⟩ rfl ⟨by omega, by omega⟩ ?_
      refine jv_aload_n rfl rfl rfl (by decide) ?_
      refine jv_iload_n rfl rfl rfl ?_
      refine jv_iconst rfl rfl ?_
      refine jv_iadd rfl rfl ⟨by omega, by omega⟩ ?_
      refine jv_xaload (ln := len) (f := sc) rfl rfl ⟨by decide, by decide⟩ rfl ⟨by omega, by omega⟩ ?_
      refine jv_callV3 rfl rfl rfl rfl ⟨by decide, rfl⟩ (Nat.le_of_ble_eq_true rfl) (jv_mono (g21 _ _ _ (hsc _) (hsc _) (hsc _) μ hI) (fun v μ1 hv => ?_))
      obtain ⟨r, rfl, hv⟩ := hv
      show jV _ _ jm_p_L_law _ 486 [some (.inr (.inr (-2))), some (.inr (.inr 0)), some (.inr (.inr 94)), some (.inl x)] [.inl r] μ1
      refine jv_aload_n rfl rfl rfl (by decide) ?_
      refine jv_aload_n rfl rfl rfl (by decide) ?_
      refine jv_iload_n rfl rfl rfl ?_
      refine jv_iconst rfl rfl ?_
      refine jv_iadd rfl rfl ⟨by omega, by omega⟩ ?_
      refine jv_xaload (ln := len) (f := sc) rfl rfl ⟨by decide, by decide⟩ rfl ⟨by omega, by omega⟩ ?_
      refine jv_aload_n rfl rfl rfl (by decide) ?_
      refine jv_iload_n rfl rfl rfl ?_
      refine jv_iconst rfl rfl ?_
      refine jv_iadd rfl rfl ⟨by omega, by omega⟩ ?_
      refine jv_xaload (ln := len) (f := sc) rfl rfl ⟨by decide, by decide⟩ rfl ⟨by omega, by omega⟩ ?_
      refine jv_aload_n rfl rfl rfl (by decide) ?_
      refine jv_iload_n rfl rfl rfl ?_
      refine jv_iconst rfl rfl ?_
      refine jv_iadd rfl rfl ⟨by omega, by omega⟩ ?_
      refine jv_xaload (ln := len) (f := sc) rfl rfl ⟨by decide, by decide⟩ rfl ⟨by omega, by omega⟩ ?_
      refine jv_callV3 rfl rfl rfl rfl ⟨by decide, rfl⟩ (Nat.le_of_ble_eq_true rfl) (jv_mono hv (fun v2 μ2 hv2 => ?_))
      obtain ⟨rfl, hI2⟩ := hv2
      show jV _ _ jm_p_L_law _ 503 [some (.inr (.inr (-2))), some (.inr (.inr 0)), some (.inr (.inr 94)), some (.inl x)] [.inl r, .inl r] μ2
      refine jv_icmp_eqT rfl rfl rfl ?_
      exact hend μ2 hI2
    · refine jv_aload_n rfl rfl rfl (by decide) ?_
      refine jv_aload_n rfl rfl rfl (by decide) ?_
      refine jv_iload_n rfl rfl rfl ?_
      refine jv_iconst rfl rfl ?_
      refine jv_iadd rfl rfl ⟨by omega, by omega⟩ ?_
      refine jv_xaload (ln := len) (f := sc) rfl rfl ⟨by decide, by decide⟩ rfl ⟨by omega, by omega⟩ ?_
      refine jv_callV1 rfl rfl rfl rfl ⟨by decide, rfl⟩ (Nat.le_of_ble_eq_true rfl) (jv_mono (g22 _ (hsc _) μ hI) (fun v μ1 hv => ?_))
      obtain ⟨r, rfl, hv⟩ := hv
      show jV _ _ jm_p_L_law _ 513 [some (.inr (.inr (-2))), some (.inr (.inr 0)), some (.inr (.inr 94)), some (.inl x)] [.inl r] μ1
      refine jv_aload_n rfl rfl rfl (by decide) ?_
      refine jv_aload_n rfl rfl rfl (by decide) ?_
      refine jv_iload_n rfl rfl rfl ?_
      refine jv_iconst rfl rfl ?_
      refine jv_iadd rfl rfl ⟨by omega, by omega⟩ ?_
      refine jv_xaload (ln := len) (f := sc) rfl rfl ⟨by decide, by decide⟩ rfl ⟨by omega, by omega⟩ ?_
      refine jv_callV1 rfl rfl rfl rfl ⟨by decide, rfl⟩ (Nat.le_of_ble_eq_true rfl) (jv_mono hv (fun v2 μ2 hv2 => ?_))
      obtain ⟨rfl, hI2⟩ := hv2
      show jV _ _ jm_p_L_law _ 520 [some (.inr (.inr (-2))), some (.inr (.inr 0)), some (.inr (.inr 94)), some (.inl x)] [.inl r, .inl r] μ2
      refine jv_icmp_eqT rfl rfl rfl ?_
      exact hend μ2 hI2
    · refine jv_aload_n rfl rfl rfl (by decide) ?_
      refine jv_aload_n rfl rfl rfl (by decide) ?_
      refine jv_iload_n rfl rfl rfl ?_
      refine jv_iconst rfl rfl ?_
      refine jv_iadd rfl rfl ⟨by omega, by omega⟩ ?_
      refine jv_xaload (ln := len) (f := sc) rfl rfl ⟨by decide, by decide⟩ rfl ⟨by omega, by omega⟩ ?_
      refine jv_aload_n rfl rfl rfl (by decide) ?_
      refine jv_iload_n rfl rfl rfl ?_
      refine jv_iconst rfl rfl ?_
      refine jv_iadd rfl rfl ⟨by omega, by omega⟩ ?_
      refine jv_xaload (ln := len) (f := sc) rfl rfl ⟨by decide, by decide⟩ rfl ⟨by omega, by omega⟩ ?_
      refine jv_callV2 rfl rfl rfl rfl ⟨by decide, rfl⟩ (Nat.le_of_ble_eq_true rfl) (jv_mono (g23 _ _ (hsc _) (hsc _) μ hI) (fun v μ1 hv => ?_))
      obtain ⟨r, rfl, hv⟩ := hv
      show jV _ _ jm_p_L_law _ 535 [some (.inr (.inr (-2))), some (.inr (.inr 0)), some (.inr (.inr 94)), some (.inl x)] [.inl r] μ1
      refine jv_aload_n rfl rfl rfl (by decide) ?_
      refine jv_aload_n rfl rfl rfl (by decide) ?_
      refine jv_iload_n rfl rfl rfl ?_
      refine jv_iconst rfl rfl ?_
      refine jv_iadd rfl rfl ⟨by omega, by omega⟩ ?_
      refine jv_xaload (ln := len) (f := sc) rfl rfl ⟨by decide, by decide⟩ rfl ⟨by omega, by omega⟩ ?_
      refine jv_aload_n rfl rfl rfl (by decide) ?_
      refine jv_iload_n rfl rfl rfl ?_
      refine jv_iconst rfl rfl ?_
      refine jv_iadd rfl rfl ⟨by omega, by omega⟩ ?_
      refine jv_xaload (ln := len) (f := sc) rfl rfl ⟨by decide, by decide⟩ rfl ⟨by omega, by omega⟩ ?_
      refine jv_callV2 rfl rfl rfl rfl ⟨by decide, rfl⟩ (Nat.le_of_ble_eq_true rfl) (jv_mono hv (fun v2 μ2 hv2 => ?_))
      obtain ⟨rfl, hI2⟩ := hv2
      show jV _ _ jm_p_L_law _ 547 [some (.inr (.inr (-2))), some (.inr (.inr 0)), some (.inr (.inr 94)), some (.inl x)] [.inl r, .inl r] μ2
      refine jv_icmp_eqT rfl rfl rfl ?_
      exact hend μ2 hI2
    · refine jv_aload_n rfl rfl rfl (by decide) ?_
      refine jv_aload_n rfl rfl rfl (by decide) ?_
      refine jv_iload_n rfl rfl rfl ?_
      refine jv_iconst rfl rfl ?_
      refine jv_iadd rfl rfl ⟨by omega, by omega⟩ ?_
      refine jv_xaload (ln := len) (f := sc) rfl rfl ⟨by decide, by decide⟩ rfl ⟨by omega, by omega⟩ ?_
      refine jv_aload_n rfl rfl rfl (by decide) ?_
      refine jv_iload_n rfl rfl rfl ?_
      refine jv_iconst rfl rfl ?_
      refine jv_iadd rfl rfl ⟨by omega, by omega⟩ ?_
      refine jv_xaload (ln := len) (f := sc) rfl rfl ⟨by decide, by decide⟩ rfl ⟨by omega, by omega⟩ ?_
      refine jv_callV2 rfl rfl rfl rfl ⟨by decide, rfl⟩ (Nat.le_of_ble_eq_true rfl) (jv_mono (g24 _ _ (hsc _) (hsc _) μ hI) (fun v μ1 hv => ?_))
      obtain ⟨r, rfl, hv⟩ := hv
      show jV _ _ jm_p_L_law _ 562 [some (.inr (.inr (-2))), some (.inr (.inr 0)), some (.inr (.inr 94)), some (.inl x)] [.inl r] μ1
      refine jv_aload_n rfl rfl rfl (by decide) ?_
      refine jv_aload_n rfl rfl rfl (by decide) ?_
      refine jv_iload_n rfl rfl rfl ?_
      refine jv_iconst rfl rfl ?_
      refine jv_iadd rfl rfl ⟨by omega, by omega⟩ ?_
      refine jv_xaload (ln := len) (f := sc) rfl rfl ⟨by decide, by decide⟩ rfl ⟨by omega, by omega⟩ ?_
      refine jv_aload_n rfl rfl rfl (by decide) ?_
      refine jv_iload_n rfl rfl rfl ?_
      refine jv_iconst rfl rfl ?_
      refine jv_iadd rfl rfl ⟨by omega, by omega⟩ ?_
      refine jv_xaload (ln := len) (f := sc) rfl rfl ⟨by decide, by decide⟩ rfl ⟨by omega, by omega⟩ ?_
      refine jv_callV2 rfl rfl rfl rfl ⟨by decide, rfl⟩ (Nat.le_of_ble_eq_true rfl) (jv_mono hv (fun v2 μ2 hv2 => ?_))
      obtain ⟨rfl, hI2⟩ := hv2
      show jV _ _ jm_p_L_law _ 574 [some (.inr (.inr (-2))), some (.inr (.inr 0)), some (.inr (.inr 94)), some (.inl x)] [.inl r, .inl r] μ2
      refine jv_icmp_eqT rfl rfl rfl ?_
      exact hend μ2 hI2
    · refine jv_aload_n rfl rfl rfl (by decide) ?_
      refine jv_aload_n rfl rfl rfl (by decide) ?_
      refine jv_iload_n rfl rfl rfl ?_
      refine jv_iconst rfl rfl ?_
      refine jv_iadd rfl rfl ⟨by omega, by omega⟩ ?_
      refine jv_xaload (ln := len) (f := sc) rfl rfl ⟨by decide, by decide⟩ rfl ⟨by omega, by omega⟩ ?_
      refine jv_aload_n rfl rfl rfl (by decide) ?_
      refine jv_iload_n rfl rfl rfl ?_
      refine jv_iconst rfl rfl ?_
      refine jv_iadd rfl rfl ⟨by omega, by omega⟩ ?_
      refine jv_xaload (ln := len) (f := sc) rfl rfl ⟨by decide, by decide⟩ rfl ⟨by omega, by omega⟩ ?_
      refine jv_aload_n rfl rfl rfl (by decide) ?_
      refine jv_iload_n rfl rfl rfl ?_
      refine jv_iconst rfl rfl ?_
      refine jv_iadd rfl rfl ⟨by omega, by omega⟩ ?_
      refine jv_xaload (ln := len) (f := sc) rfl rfl ⟨by decide, by decide⟩ rfl ⟨by omega, by omega⟩ ?_
      refine jv_aload_n rfl rfl rfl (by decide) ?_
      refine jv_iload_n rfl rfl rfl ?_
      refine jv_iconst rfl rfl ?_
      refine jv_iadd rfl rfl ⟨by omega, by omega⟩ ?_
      refine jv_xaload (ln := len) (f := sc) rfl rfl ⟨by decide, by decide⟩ rfl ⟨by omega, by omega⟩ ?_
      refine jv_callV4 rfl rfl rfl rfl ⟨by decide, rfl⟩ (Nat.le_of_ble_eq_true rfl) (jv_mono (g25 _ _ _ _ (hsc _) (hsc _) (hsc _) (hsc _) μ hI) (fun v μ1 hv => ?_))
      obtain ⟨r, rfl, hv⟩ := hv
      show jV _ _ jm_p_L_law _ 599 [some (.inr (.inr (-2))), some (.inr (.inr 0)), some (.inr (.inr 94)), some (.inl x)] [.inl r] μ1
      refine jv_aload_n rfl rfl rfl (by decide) ?_
      refine jv_aload_n rfl rfl rfl (by decide) ?_
      refine jv_iload_n rfl rfl rfl ?_
      refine jv_iconst rfl rfl ?_
      refine jv_iadd rfl rfl ⟨by omega, by omega⟩ ?_
      refine jv_xaload (ln := len) (f := sc) rfl rfl ⟨by decide, by decide⟩ rfl ⟨by omega, by omega⟩ ?_
      refine jv_aload_n rfl rfl rfl (by decide) ?_
      refine jv_iload_n rfl rfl rfl ?_
      refine jv_iconst rfl rfl ?_
      refine jv_iadd rfl rfl ⟨by omega, by omega⟩ ?_
      refine jv_xaload (ln := len) (f := sc) rfl rfl ⟨by decide, by decide⟩ rfl ⟨by omega, by omega⟩ ?_
      refine jv_aload_n rfl rfl rfl (by decide) ?_
      refine jv_iload_n rfl rfl rfl ?_
      refine jv_iconst rfl rfl ?_
      refine jv_iadd rfl rfl ⟨by omega, by omega⟩ ?_
      refine jv_xaload (ln := len) (f := sc) rfl rfl ⟨by decide, by decide⟩ rfl ⟨by omega, by omega⟩ ?_
      refine jv_aload_n rfl rfl rfl (by decide) ?_
      refine jv_iload_n rfl rfl rfl ?_
      refine jv_iconst rfl rfl ?_
      refine jv_iadd rfl rfl ⟨by omega, by omega⟩ ?_
      refine jv_xaload (ln := len) (f := sc) rfl rfl ⟨by decide, by decide⟩ rfl ⟨by omega, by omega⟩ ?_
      refine jv_callV4 rfl rfl rfl rfl ⟨by decide, rfl⟩ (Nat.le_of_ble_eq_true rfl) (jv_mono hv (fun v2 μ2 hv2 => ?_))
      obtain ⟨rfl, hI2⟩ := hv2
      show jV _ _ jm_p_L_law _ 621 [some (.inr (.inr (-2))), some (.inr (.inr 0)), some (.inr (.inr 94)), some (.inl x)] [.inl r, .inl r] μ2
      refine jv_icmp_eqT rfl rfl rfl ?_
      exact hend μ2 hI2
    · refine jv_aload_n rfl rfl rfl (by decide) ?_
      refine jv_aload_n rfl rfl rfl (by decide) ?_
      refine jv_iload_n rfl rfl rfl ?_
      refine jv_iconst rfl rfl ?_
      refine jv_iadd rfl rfl ⟨by omega, by omega⟩ ?_
      refine jv_xaload (ln := len) (f := sc) rfl rfl ⟨by decide, by decide⟩ rfl ⟨by omega, by omega⟩ ?_
      refine jv_aload_n rfl rfl rfl (by decide) ?_
      refine jv_iload_n rfl rfl rfl ?_
      refine jv_iconst rfl rfl ?_
      refine jv_iadd rfl rfl ⟨by omega, by omega⟩ ?_
      refine jv_xaload (ln := len) (f := sc) rfl rfl ⟨by decide, by decide⟩ rfl ⟨by omega, by omega⟩ ?_
      refine jv_aload_n rfl rfl rfl (by decide) ?_
      refine jv_iload_n rfl rfl rfl ?_
      refine jv_iconst rfl rfl ?_
      refine jv_iadd rfl rfl ⟨by omega, by omega⟩ ?_
      refine jv_xaload (ln := len) (f := sc) rfl rfl ⟨by decide, by decide⟩ rfl ⟨by omega, by omega⟩ ?_
      refine jv_callV3 rfl rfl rfl rfl ⟨by decide, rfl⟩ (Nat.le_of_ble_eq_true rfl) (jv_mono (g26 _ _ _ (hsc _) (hsc _) (hsc _) μ hI) (fun v μ1 hv => ?_))
      obtain ⟨r, rfl, hv⟩ := hv
      show jV _ _ jm_p_L_law _ 641 [some (.inr (.inr (-2))), some (.inr (.inr 0)), some (.inr (.inr 94)), some (.inl x)] [.inl r] μ1
      refine jv_aload_n rfl rfl rfl (by decide) ?_
      refine jv_aload_n rfl rfl rfl (by decide) ?_
      refine jv_iload_n rfl rfl rfl ?_
      refine jv_iconst rfl rfl ?_
      refine jv_iadd rfl rfl ⟨by omega, by omega⟩ ?_
      refine jv_xaload (ln := len) (f := sc) rfl rfl ⟨by decide, by decide⟩ rfl ⟨by omega, by omega⟩ ?_
      refine jv_aload_n rfl rfl rfl (by decide) ?_
      refine jv_iload_n rfl rfl rfl ?_
      refine jv_iconst rfl rfl ?_
      refine jv_iadd rfl rfl ⟨by omega, by omega⟩ ?_
      refine jv_xaload (ln := len) (f := sc) rfl rfl ⟨by decide, by decide⟩ rfl ⟨by omega, by omega⟩ ?_
      refine jv_aload_n rfl rfl rfl (by decide) ?_
      refine jv_iload_n rfl rfl rfl ?_
      refine jv_iconst rfl rfl ?_
      refine jv_iadd rfl rfl ⟨by omega, by omega⟩ ?_
      refine jv_xaload (ln := len) (f := sc) rfl rfl ⟨by decide, by decide⟩ rfl ⟨by omega, by omega⟩ ?_
      refine jv_callV3 rfl rfl rfl rfl ⟨by decide, rfl⟩ (Nat.le_of_ble_eq_true rfl) (jv_mono hv (fun v2 μ2 hv2 => ?_))
      obtain ⟨rfl, hI2⟩ := hv2
      show jV _ _ jm_p_L_law _ 658 [some (.inr (.inr (-2))), some (.inr (.inr 0)), some (.inr (.inr 94)), some (.inl x)] [.inl r, .inl r] μ2
      refine jv_icmp_eqT rfl rfl rfl ?_
      exact hend μ2 hI2
    · refine jv_aload_n rfl rfl rfl (by decide) ?_
      refine jv_aload_n rfl rfl rfl (by decide) ?_
      refine jv_iload_n rfl rfl rfl ?_
      refine jv_iconst rfl rfl ?_
      refine jv_iadd rfl rfl ⟨by omega, by omega⟩ ?_
      refine jv_xaload (ln := len) (f := sc) rfl rfl ⟨by decide, by decide⟩ rfl ⟨by omega, by omega⟩ ?_
      refine jv_aload_n rfl rfl rfl (by decide) ?_
      refine jv_iload_n rfl rfl rfl ?_
      refine jv_iconst rfl rfl ?_
      refine jv_iadd rfl rfl ⟨by omega, by omega⟩ ?_
      refine jv_xaload (ln := len) (f := sc) rfl rfl ⟨by decide, by decide⟩ rfl ⟨by omega, by omega⟩ ?_
      refine jv_aload_n rfl rfl rfl (by decide) ?_
      refine jv_iload_n rfl rfl rfl ?_
      refine jv_iconst rfl rfl ?_
      refine jv_iadd rfl rfl ⟨by omega, by omega⟩ ?_
      refine jv_xaload (ln := len) (f := sc) rfl rfl ⟨by decide, by decide⟩ rfl ⟨by omega, by omega⟩ ?_
      refine jv_callV3 rfl rfl rfl rfl ⟨by decide, rfl⟩ (Nat.le_of_ble_eq_true rfl) (jv_mono (g27 _ _ _ (hsc _) (hsc _) (hsc _) μ hI) (fun v μ1 hv => ?_))
      obtain ⟨r, rfl, hv⟩ := hv
      show jV _ _ jm_p_L_law _ 678 [some (.inr (.inr (-2))), some (.inr (.inr 0)), some (.inr (.inr 94)), some (.inl x)] [.inl r] μ1
      refine jv_aload_n rfl rfl rfl (by decide) ?_
      refine jv_aload_n rfl rfl rfl (by decide) ?_
      refine jv_iload_n rfl rfl rfl ?_
      refine jv_iconst rfl rfl ?_
      refine jv_iadd rfl rfl ⟨by omega, by omega⟩ ?_
      refine jv_xaload (ln := len) (f := sc) rfl rfl ⟨by decide, by decide⟩ rfl ⟨by omega, by omega⟩ ?_
      refine jv_aload_n rfl rfl rfl (by decide) ?_
      refine jv_iload_n rfl rfl rfl ?_
      refine jv_iconst rfl rfl ?_
      refine jv_iadd rfl rfl ⟨by omega, by omega⟩ ?_
      refine jv_xaload (ln := len) (f := sc) rfl rfl ⟨by decide, by decide⟩ rfl ⟨by omega, by omega⟩ ?_
      refine jv_aload_n rfl rfl rfl (by decide) ?_
      refine jv_iload_n rfl rfl rfl ?_
      refine jv_iconst rfl rfl ?_
      refine jv_iadd rfl rfl ⟨by omega, by omega⟩ ?_
      refine jv_xaload (ln := len) (f := sc) rfl rfl ⟨by decide, by decide⟩ rfl ⟨by omega, by omega⟩ ?_
      refine jv_callV3 rfl rfl rfl rfl ⟨by decide, rfl⟩ (Nat.le_of_ble_eq_true rfl) (jv_mono hv (fun v2 μ2 hv2 => ?_))
      obtain ⟨rfl, hI2⟩ := hv2
      show jV _ _ jm_p_L_law _ 695 [some (.inr (.inr (-2))), some (.inr (.inr 0)), some (.inr (.inr 94)), some (.inl x)] [.inl r, .inl r] μ2
      refine jv_icmp_eqT rfl rfl rfl ?_
      exact hend μ2 hI2
    · refine jv_aload_n rfl rfl rfl (by decide) ?_
      refine jv_aload_n rfl rfl rfl (by decide) ?_
      refine jv_iload_n rfl rfl rfl ?_
      refine jv_iconst rfl rfl ?_
      refine jv_iadd rfl rfl ⟨by omega, by omega⟩ ?_
      refine jv_xaload (ln := len) (f := sc) rfl rfl ⟨by decide, by decide⟩ rfl ⟨by omega, by omega⟩ ?_
      refine jv_callV1 rfl rfl rfl rfl ⟨by decide, rfl⟩ (Nat.le_of_ble_eq_true rfl) (jv_mono (g28 _ (hsc _) μ hI) (fun v μ1 hv => ?_))
      obtain ⟨r, rfl, hv⟩ := hv
      show jV _ _ jm_p_L_law _ 705 [some (.inr (.inr (-2))), some (.inr (.inr 0)), some (.inr (.inr 94)), some (.inl x)] [.inl r] μ1
      refine jv_aload_n rfl rfl rfl (by decide) ?_
      refine jv_aload_n rfl rfl rfl (by decide) ?_
      refine jv_iload_n rfl rfl rfl ?_
      refine jv_iconst rfl rfl ?_
      refine jv_iadd rfl rfl ⟨by omega, by omega⟩ ?_
      refine jv_xaload (ln := len) (f := sc) rfl rfl ⟨by decide, by decide⟩ rfl ⟨by omega, by omega⟩ ?_
      refine jv_callV1 rfl rfl rfl rfl ⟨by decide, rfl⟩ (Nat.le_of_ble_eq_true rfl) (jv_mono hv (fun v2 μ2 hv2 => ?_))
      obtain ⟨rfl, hI2⟩ := hv2
      show jV _ _ jm_p_L_law _ 712 [some (.inr (.inr (-2))), some (.inr (.inr 0)), some (.inr (.inr 94)), some (.inl x)] [.inl r, .inl r] μ2
      refine jv_icmp_eqT rfl rfl rfl ?_
      exact hend μ2 hI2
    · refine jv_aload_n rfl rfl rfl (by decide) ?_
      refine jv_aload_n rfl rfl rfl (by decide) ?_
      refine jv_iload_n rfl rfl rfl ?_
      refine jv_iconst rfl rfl ?_
      refine jv_iadd rfl rfl ⟨by omega, by omega⟩ ?_
      refine jv_xaload (ln := len) (f := sc) rfl rfl ⟨by decide, by decide⟩ rfl ⟨by omega, by omega⟩ ?_
      refine jv_callV1 rfl rfl rfl rfl ⟨by decide, rfl⟩ (Nat.le_of_ble_eq_true rfl) (jv_mono (g29 _ (hsc _) μ hI) (fun v μ1 hv => ?_))
      obtain ⟨r, rfl, hv⟩ := hv
      show jV _ _ jm_p_L_law _ 722 [some (.inr (.inr (-2))), some (.inr (.inr 0)), some (.inr (.inr 94)), some (.inl x)] [.inl r] μ1
      refine jv_aload_n rfl rfl rfl (by decide) ?_
      refine jv_aload_n rfl rfl rfl (by decide) ?_
      refine jv_iload_n rfl rfl rfl ?_
      refine jv_iconst rfl rfl ?_
      refine jv_iadd rfl rfl ⟨by omega, by omega⟩ ?_
      refine jv_xaload (ln := len) (f := sc) rfl rfl ⟨by decide, by decide⟩ rfl ⟨by omega, by omega⟩ ?_
      refine jv_callV1 rfl rfl rfl rfl ⟨by decide, rfl⟩ (Nat.le_of_ble_eq_true rfl) (jv_mono hv (fun v2 μ2 hv2 => ?_))
      obtain ⟨rfl, hI2⟩ := hv2
      show jV _ _ jm_p_L_law _ 729 [some (.inr (.inr (-2))), some (.inr (.inr 0)), some (.inr (.inr 94)), some (.inl x)] [.inl r, .inl r] μ2
      refine jv_icmp_eqT rfl rfl rfl ?_
      exact hend μ2 hI2
    · refine jv_aload_n rfl rfl rfl (by decide) ?_
      refine jv_aload_n rfl rfl rfl (by decide) ?_
      refine jv_iload_n rfl rfl rfl ?_
      refine jv_iconst rfl rfl ?_
      refine jv_iadd rfl rfl ⟨by omega, by omega⟩ ?_
      refine jv_xaload (ln := len) (f := sc) rfl rfl ⟨by decide, by decide⟩ rfl ⟨by omega, by omega⟩ ?_
      refine jv_callV1 rfl rfl rfl rfl ⟨by decide, rfl⟩ (Nat.le_of_ble_eq_true rfl) (jv_mono (g30 _ (hsc _) μ hI) (fun v μ1 hv => ?_))
      obtain ⟨r, rfl, hv⟩ := hv
      show jV _ _ jm_p_L_law _ 739 [some (.inr (.inr (-2))), some (.inr (.inr 0)), some (.inr (.inr 94)), some (.inl x)] [.inl r] μ1
      refine jv_aload_n rfl rfl rfl (by decide) ?_
      refine jv_aload_n rfl rfl rfl (by decide) ?_
      refine jv_iload_n rfl rfl rfl ?_
      refine jv_iconst rfl rfl ?_
      refine jv_iadd rfl rfl ⟨by omega, by omega⟩ ?_
      refine jv_xaload (ln := len) (f := sc) rfl rfl ⟨by decide, by decide⟩ rfl ⟨by omega, by omega⟩ ?_
      refine jv_callV1 rfl rfl rfl rfl ⟨by decide, rfl⟩ (Nat.le_of_ble_eq_true rfl) (jv_mono hv (fun v2 μ2 hv2 => ?_))
      obtain ⟨rfl, hI2⟩ := hv2
      show jV _ _ jm_p_L_law _ 746 [some (.inr (.inr (-2))), some (.inr (.inr 0)), some (.inr (.inr 94)), some (.inl x)] [.inl r, .inl r] μ2
      refine jv_icmp_eqT rfl rfl rfl ?_
      exact hend μ2 hI2
    · refine jv_aload_n rfl rfl rfl (by decide) ?_
      refine jv_aload_n rfl rfl rfl (by decide) ?_
      refine jv_iload_n rfl rfl rfl ?_
      refine jv_iconst rfl rfl ?_
      refine jv_iadd rfl rfl ⟨by omega, by omega⟩ ?_
      refine jv_xaload (ln := len) (f := sc) rfl rfl ⟨by decide, by decide⟩ rfl ⟨by omega, by omega⟩ ?_
      refine jv_aload_n rfl rfl rfl (by decide) ?_
      refine jv_iload_n rfl rfl rfl ?_
      refine jv_iconst rfl rfl ?_
      refine jv_iadd rfl rfl ⟨by omega, by omega⟩ ?_
      refine jv_xaload (ln := len) (f := sc) rfl rfl ⟨by decide, by decide⟩ rfl ⟨by omega, by omega⟩ ?_
      refine jv_callV2 rfl rfl rfl rfl ⟨by decide, rfl⟩ (Nat.le_of_ble_eq_true rfl) (jv_mono (g31 _ _ (hsc _) (hsc _) μ hI) (fun v μ1 hv => ?_))
      obtain ⟨r, rfl, hv⟩ := hv
      show jV _ _ jm_p_L_law _ 761 [some (.inr (.inr (-2))), some (.inr (.inr 0)), some (.inr (.inr 94)), some (.inl x)] [.inl r] μ1
      refine jv_aload_n rfl rfl rfl (by decide) ?_
      refine jv_aload_n rfl rfl rfl (by decide) ?_
      refine jv_iload_n rfl rfl rfl ?_
      refine jv_iconst rfl rfl ?_
      refine jv_iadd rfl rfl ⟨by omega, by omega⟩ ?_
      refine jv_xaload (ln := len) (f := sc) rfl rfl ⟨by decide, by decide⟩ rfl ⟨by omega, by omega⟩ ?_
      refine jv_aload_n rfl rfl rfl (by decide) ?_
      refine jv_iload_n rfl rfl rfl ?_
      refine jv_iconst rfl rfl ?_
      refine jv_iadd rfl rfl ⟨by omega, by omega⟩ ?_
      refine jv_xaload (ln := len) (f := sc) rfl rfl ⟨by decide, by decide⟩ rfl ⟨by omega, by omega⟩ ?_
      refine jv_callV2 rfl rfl rfl rfl ⟨by decide, rfl⟩ (Nat.le_of_ble_eq_true rfl) (jv_mono hv (fun v2 μ2 hv2 => ?_))
      obtain ⟨rfl, hI2⟩ := hv2
      show jV _ _ jm_p_L_law _ 773 [some (.inr (.inr (-2))), some (.inr (.inr 0)), some (.inr (.inr 94)), some (.inl x)] [.inl r, .inl r] μ2
      refine jv_icmp_eqT rfl rfl rfl ?_
      exact hend μ2 hI2
    · refine jv_aload_n rfl rfl rfl (by decide) ?_
      refine jv_aload_n rfl rfl rfl (by decide) ?_
      refine jv_iload_n rfl rfl rfl ?_
      refine jv_iconst rfl rfl ?_
      refine jv_iadd rfl rfl ⟨by omega, by omega⟩ ?_
      refine jv_xaload (ln := len) (f := sc) rfl rfl ⟨by decide, by decide⟩ rfl ⟨by omega, by omega⟩ ?_
      refine jv_aload_n rfl rfl rfl (by decide) ?_
      refine jv_iload_n rfl rfl rfl ?_
      refine jv_iconst rfl rfl ?_
      refine jv_iadd rfl rfl ⟨by omega, by omega⟩ ?_
      refine jv_xaload (ln := len) (f := sc) rfl rfl ⟨by decide, by decide⟩ rfl ⟨by omega, by omega⟩ ?_
      refine jv_callV2 rfl rfl rfl rfl ⟨by decide, rfl⟩ (Nat.le_of_ble_eq_true rfl) (jv_mono (g32 _ _ (hsc _) (hsc _) μ hI) (fun v μ1 hv => ?_))
      obtain ⟨r, rfl, hv⟩ := hv
      show jV _ _ jm_p_L_law _ 788 [some (.inr (.inr (-2))), some (.inr (.inr 0)), some (.inr (.inr 94)), some (.inl x)] [.inl r] μ1
      refine jv_aload_n rfl rfl rfl (by decide) ?_
      refine jv_aload_n rfl rfl rfl (by decide) ?_
      refine jv_iload_n rfl rfl rfl ?_
      refine jv_iconst rfl rfl ?_
      refine jv_iadd rfl rfl ⟨by omega, by omega⟩ ?_
      refine jv_xaload (ln := len) (f := sc) rfl rfl ⟨by decide, by decide⟩ rfl ⟨by omega, by omega⟩ ?_
      refine jv_aload_n rfl rfl rfl (by decide) ?_
      refine jv_iload_n rfl rfl rfl ?_
      refine jv_iconst rfl rfl ?_
      refine jv_iadd rfl rfl ⟨by omega, by omega⟩ ?_
      refine jv_xaload (ln := len) (f := sc) rfl rfl ⟨by decide, by decide⟩ rfl ⟨by omega, by omega⟩ ?_
      refine jv_callV2 rfl rfl rfl rfl ⟨by decide, rfl⟩ (Nat.le_of_ble_eq_true rfl) (jv_mono hv (fun v2 μ2 hv2 => ?_))
      obtain ⟨rfl, hI2⟩ := hv2
      show jV _ _ jm_p_L_law _ 800 [some (.inr (.inr (-2))), some (.inr (.inr 0)), some (.inr (.inr 94)), some (.inl x)] [.inl r, .inl r] μ2
      refine jv_icmp_eqT rfl rfl rfl ?_
      exact hend μ2 hI2
    · refine jv_aload_n rfl rfl rfl (by decide) ?_
      refine jv_aload_n rfl rfl rfl (by decide) ?_
      refine jv_iload_n rfl rfl rfl ?_
      refine jv_iconst rfl rfl ?_
      refine jv_iadd rfl rfl ⟨by omega, by omega⟩ ?_
      refine jv_xaload (ln := len) (f := sc) rfl rfl ⟨by decide, by decide⟩ rfl ⟨by omega, by omega⟩ ?_
      refine jv_callV1 rfl rfl rfl rfl ⟨by decide, rfl⟩ (Nat.le_of_ble_eq_true rfl) (jv_mono (g33 _ (hsc _) μ hI) (fun v μ1 hv => ?_))
      obtain ⟨r, rfl, hv⟩ := hv
      show jV _ _ jm_p_L_law _ 810 [some (.inr (.inr (-2))), some (.inr (.inr 0)), some (.inr (.inr 94)), some (.inl x)] [.inl r] μ1
      refine jv_aload_n rfl rfl rfl (by decide) ?_
      refine jv_aload_n rfl rfl rfl (by decide) ?_
      refine jv_iload_n rfl rfl rfl ?_
      refine jv_iconst rfl rfl ?_
      refine jv_iadd rfl rfl ⟨by omega, by omega⟩ ?_
      refine jv_xaload (ln := len) (f := sc) rfl rfl ⟨by decide, by decide⟩ rfl ⟨by omega, by omega⟩ ?_
      refine jv_callV1 rfl rfl rfl rfl ⟨by decide, rfl⟩ (Nat.le_of_ble_eq_true rfl) (jv_mono hv (fun v2 μ2 hv2 => ?_))
      obtain ⟨rfl, hI2⟩ := hv2
      show jV _ _ jm_p_L_law _ 817 [some (.inr (.inr (-2))), some (.inr (.inr 0)), some (.inr (.inr 94)), some (.inl x)] [.inl r, .inl r] μ2
      refine jv_icmp_eqT rfl rfl rfl ?_
      exact hend μ2 hI2
    · refine jv_aload_n rfl rfl rfl (by decide) ?_
      refine jv_aload_n rfl rfl rfl (by decide) ?_
      refine jv_iload_n rfl rfl rfl ?_
      refine jv_iconst rfl rfl ?_
      refine jv_iadd rfl rfl ⟨by omega, by omega⟩ ?_
      refine jv_xaload (ln := len) (f := sc) rfl rfl ⟨by decide, by decide⟩ rfl ⟨by omega, by omega⟩ ?_
      refine jv_callV1 rfl rfl rfl rfl ⟨by decide, rfl⟩ (Nat.le_of_ble_eq_true rfl) (jv_mono (g34 _ (hsc _) μ hI) (fun v μ1 hv => ?_))
      obtain ⟨r, rfl, hv⟩ := hv
      show jV _ _ jm_p_L_law _ 827 [some (.inr (.inr (-2))), some (.inr (.inr 0)), some (.inr (.inr 94)), some (.inl x)] [.inl r] μ1
      refine jv_aload_n rfl rfl rfl (by decide) ?_
      refine jv_aload_n rfl rfl rfl (by decide) ?_
      refine jv_iload_n rfl rfl rfl ?_
      refine jv_iconst rfl rfl ?_
      refine jv_iadd rfl rfl ⟨by omega, by omega⟩ ?_
      refine jv_xaload (ln := len) (f := sc) rfl rfl ⟨by decide, by decide⟩ rfl ⟨by omega, by omega⟩ ?_
      refine jv_callV1 rfl rfl rfl rfl ⟨by decide, rfl⟩ (Nat.le_of_ble_eq_true rfl) (jv_mono hv (fun v2 μ2 hv2 => ?_))
      obtain ⟨rfl, hI2⟩ := hv2
      show jV _ _ jm_p_L_law _ 834 [some (.inr (.inr (-2))), some (.inr (.inr 0)), some (.inr (.inr 94)), some (.inl x)] [.inl r, .inl r] μ2
      refine jv_icmp_eqT rfl rfl rfl ?_
      exact hend μ2 hI2
    · refine jv_aload_n rfl rfl rfl (by decide) ?_
      refine jv_callV0 rfl rfl rfl rfl ⟨by decide, rfl⟩ (Nat.le_of_ble_eq_true rfl) (jv_mono (g35  μ hI) (fun v μ1 hv => ?_))
      obtain ⟨r, rfl, hv⟩ := hv
      show jV _ _ jm_p_L_law _ 839 [some (.inr (.inr (-2))), some (.inr (.inr 0)), some (.inr (.inr 94)), some (.inl x)] [.inl r] μ1
      refine jv_aload_n rfl rfl rfl (by decide) ?_
      refine jv_callV0 rfl rfl rfl rfl ⟨by decide, rfl⟩ (Nat.le_of_ble_eq_true rfl) (jv_mono hv (fun v2 μ2 hv2 => ?_))
      obtain ⟨rfl, hI2⟩ := hv2
      show jV _ _ jm_p_L_law _ 841 [some (.inr (.inr (-2))), some (.inr (.inr 0)), some (.inr (.inr 94)), some (.inl x)] [.inl r, .inl r] μ2
      refine jv_icmp_eqT rfl rfl rfl ?_
      exact hend μ2 hI2
    · exact hend μ hI
end
section
/-! the constructors: nothing is told them, so they are run -/
def jx_go (CE : Nat → List jm_V → jm_H → Option jm_H) (B : Nat × Nat) (P : List jm_E) (stop : Nat) : Nat → Nat → jm_L → List jm_V → jm_H → Option (Bool × jm_L × List jm_V × jm_H)
  | 0, _, _, _, _ => none
  | k + 1, i, L, st, h => if i = stop then some (true, L, st, h) else match P[i]? with
    | none => none
    | some e => match e.2.1 with
      | .iconst n => jx_go CE B P stop k (i + 1) L (.inl n :: st) h
      | .bipush n => jx_go CE B P stop k (i + 1) L (.inl n :: st) h
      | .sipush n => jx_go CE B P stop k (i + 1) L (.inl n :: st) h
      | .iload_n q => match L[q.val]? with
        | some (some (.inl z)) => jx_go CE B P stop k (i + 1) L (.inl z :: st) h
        | _ => none
      | .aload_n q => match L[q.val]? with
        | some (some (.inr (.inr z))) => if ¬ z = -1 then jx_go CE B P stop k (i + 1) L (.inr (.inr z) :: st) h else none
        | _ => none
      | .istore_n q => match st with
        | .inl z :: r => jx_go CE B P stop k (i + 1) (jm_set L q.val (.inl z)) r h
        | _ => none
      | .astore_n q => match st with
        | .inr (.inr z) :: r => if ¬ z = -1 then jx_go CE B P stop k (i + 1) (jm_set L q.val (.inr (.inr z))) r h else none
        | _ => none
      | .iinc q n => match L[q]? with
        | some (some (.inl z)) => if jm_r (z + n) then jx_go CE B P stop k (i + 1) (jm_set L q (.inl (z + n))) st h else none
        | _ => none
      | .dup => match st with
        | .inr (.inr a) :: r => jx_go CE B P stop k (i + 1) L (.inr (.inr a) :: .inr (.inr a) :: r) h
        | _ => none
      | .goto _ => match e.2.2.2 with
        | [t] => jx_go CE B P stop k t.toNat L st h
        | _ => none
      | .if_icmp .ge _ => match st, e.2.2.2 with
        | .inl b :: .inl a :: r, [t] => if b ≤ a then jx_go CE B P stop k t.toNat L r h else jx_go CE B P stop k (i + 1) L r h
        | _, _ => none
      | .getfield _ => match st, e.2.2.2 with
        | .inr (.inr z) :: r, [c, f, t] => match h.1[z.toNat]? with
          | some s => if (0 ≤ z ∧ s.1 = 10 + c.toNat) ∧ t = 2 then jx_go CE B P stop k (i + 1) L (.inr (.inr (s.2.2.getD f.toNat (-1))) :: r) h else none
          | none => none
        | _, _ => none
      | .putfield _ => match st, e.2.2.2 with
        | .inr (.inr v) :: .inr (.inr z) :: r, [c, f, t] => match h.1[z.toNat]? with
          | some s => if (0 ≤ z ∧ s.1 = 10 + c.toNat) ∧ (0 ≤ v ∧ t = 2 ∧ f.toNat < s.2.2.length) then jx_go CE B P stop k (i + 1) L r (h.1.set z.toNat (s.1, s.2.1, s.2.2.set f.toNat v), h.2) else none
          | none => none
        | _, _ => none
      | .iastore => match st with
        | .inl v :: .inl j :: .inr (.inr z) :: r => match h.1[z.toNat]? with
          | some s => if (0 ≤ z ∧ s.1 = 0) ∧ (0 ≤ j ∧ j < s.2.1) then jx_go CE B P stop k (i + 1) L r (h.1, jm_uc h.2 z (jm_u1 (h.2 z) j v)) else none
          | none => none
        | _ => none
      | .aastore => match st with
        | .inr (.inr v) :: .inl j :: .inr (.inr z) :: r => match h.1[z.toNat]?, h.1[v.toNat]? with
          | some s, some q => if (0 ≤ z ∧ (0 ≤ v ∧ v ≤ 100000) ∧ ((s.1 = 2 ∧ q.1 = 15) ∨ (s.1 = 3 ∧ q.1 = 11) ∨ (s.1 = 4 ∧ q.1 = 14))) ∧ (0 ≤ j ∧ j < s.2.1) then jx_go CE B P stop k (i + 1) L r (h.1, jm_uc h.2 z (jm_u1 (h.2 z) j v)) else none
          | _, _ => none
        | _ => none
      | .newarray ty => match st, e.2.2.2 with
        | .inl n :: r, [q] => if ((q = 0 ∧ ty = .int) ∨ (q = 1 ∧ ty = .boolean)) ∧ (0 ≤ n ∧ n ≤ 100000) ∧ (h.1.length + 1 ≤ B.1 ∧ jm_tot h.1 + n.toNat ≤ B.2) then jx_go CE B P stop k (i + 1) L (.inr (.inr h.1.length) :: r) (h.1 ++ [(q.toNat, n.toNat, [])], jm_uc h.2 h.1.length (fun _ => 0)) else none
        | _, _ => none
      | .anewarray _ => match st, e.2.2.2 with
        | .inl n :: r, [q] => if (2 ≤ q ∧ q < 5) ∧ (0 ≤ n ∧ n ≤ 100000) ∧ (h.1.length + 1 ≤ B.1 ∧ jm_tot h.1 + n.toNat ≤ B.2) then jx_go CE B P stop k (i + 1) L (.inr (.inr h.1.length) :: r) (h.1 ++ [(q.toNat, n.toNat, [])], jm_uc h.2 h.1.length (fun _ => -1)) else none
        | _, _ => none
      | .new _ => match e.2.2.2 with
        | [c, n] => if h.1.length + 1 ≤ B.1 ∧ jm_tot h.1 + n.toNat ≤ B.2 then jx_go CE B P stop k (i + 1) L (.inr (.inr h.1.length) :: st) (h.1 ++ [(10 + c.toNat, n.toNat, List.replicate n.toNat (-1))], jm_uc h.2 h.1.length (fun _ => 0)) else none
        | _ => none
      | .invokespecial _ => match e.2.2.2 with
        | [n, mc, ms] => match st with
          | .inr (.inr z) :: r => if (0 ≤ z ∧ r.length ≤ 4) ∧ (h.1.length + mc.toNat ≤ B.1 ∧ jm_tot h.1 + ms.toNat ≤ B.2) then (match CE n.toNat [.inr (.inr z)] h with
            | some h2 => jx_go CE B P stop k (i + 1) L r h2
            | none => none) else none
          | _ => none
        | [] => match st with
          | .inr (.inr z) :: r => if 0 ≤ z ∧ r.length ≤ 4 then jx_go CE B P stop k (i + 1) L r h else none
          | _ => none
        | _ => none
      | .return_ => match st with
        | [] => some (false, L, [], h)
        | _ => none
      | _ => none
set_option maxHeartbeats 4000000 in
theorem jx_sound {X : jm_X} {C : jm_C} {Q : jm_Q} {CE : Nat → List jm_V → jm_H → Option jm_H} {B : Nat × Nat} {P : List jm_E} {stop : Nat} (hC : jm_mono C) (hCE : ∀ n vs h h2 (Q : jm_Q), CE n vs h = some h2 → Q [] h2 → C n vs h Q) :
    ∀ (k i : Nat) (L : jm_L) (st : List jm_V) (h : jm_H) (b : Bool) (L2 : jm_L) (st2 : List jm_V) (h2 : jm_H), jx_go CE B P stop k i L st h = some (b, L2, st2, h2) → (b = true → jm_WP X C B P Q stop L2 st2 h2) → (b = false → Q [] h2) → jm_WP X C B P Q i L st h := by
  intro k
  induction k with
  | zero => intro i L st h b L2 st2 h2 he; simp [jx_go] at he
  | succ k ih =>
    intro i L st h b L2 st2 h2 he k1 k2
    unfold jx_go at he
    split at he
    · rename_i hi
      cases he
      rw [hi]
      exact k1 rfl
    · cases hP : P[i]? with
      | none => rw [hP] at he; simp at he
      | some e =>
        rw [hP] at he
        refine jm_fold hC hP ?_
        obtain ⟨pc, ins, len, res⟩ := e
        dsimp only at he
        unfold jm_sem
        dsimp only
        cases ins <;> dsimp only at he ⊢
        case iconst => exact ih _ _ _ _ _ _ _ _ he k1 k2
        case bipush => exact ih _ _ _ _ _ _ _ _ he k1 k2
        case sipush => exact ih _ _ _ _ _ _ _ _ he k1 k2
        case iload_n =>
          split at he
          · rename_i z hz; rw [hz]; exact ih _ _ _ _ _ _ _ _ he k1 k2
          · cases he
        case aload_n =>
          split at he
          · rename_i z hz
            rw [hz]
            split at he
            · rename_i hc; exact And.intro hc (ih _ _ _ _ _ _ _ _ he k1 k2)
            · cases he
          · cases he
        case istore_n =>
          split at he
          · exact ih _ _ _ _ _ _ _ _ he k1 k2
          · cases he
        case astore_n =>
          split at he
          · split at he
            · rename_i hc; exact And.intro hc (ih _ _ _ _ _ _ _ _ he k1 k2)
            · cases he
          · cases he
        case iinc =>
          split at he
          · rename_i z hz
            rw [hz]
            split at he
            · rename_i hc; exact And.intro hc (ih _ _ _ _ _ _ _ _ he k1 k2)
            · cases he
          · cases he
        case dup =>
          split at he
          · exact ih _ _ _ _ _ _ _ _ he k1 k2
          · cases he
        case goto =>
          split at he
          · exact ih _ _ _ _ _ _ _ _ he k1 k2
          · cases he
        case if_icmp cd off =>
          cases cd <;> dsimp only at he ⊢ <;> try cases he
          split at he
          · split at he
            · rename_i hc; exact And.intro (fun _ => ih _ _ _ _ _ _ _ _ he k1 k2) (fun q => absurd hc q)
            · rename_i hc; exact And.intro (fun q => absurd q hc) (fun _ => ih _ _ _ _ _ _ _ _ he k1 k2)
          · cases he
        case getfield =>
          split at he
          · split at he
            · rename_i s hs
              split at he
              · rename_i hc
                dsimp only
                rw [hs]
                dsimp only
                rw [if_pos hc.2]
                exact And.intro hc.1 (ih _ _ _ _ _ _ _ _ he k1 k2)
              · cases he
            · cases he
          · cases he
        case putfield =>
          split at he
          · split at he
            · rename_i s hs
              split at he
              · rename_i hc
                dsimp only
                rw [hs]
                exact And.intro hc.1 (And.intro hc.2 (ih _ _ _ _ _ _ _ _ he k1 k2))
              · cases he
            · cases he
          · cases he
        case iastore =>
          split at he
          · split at he
            · rename_i s hs
              split at he
              · rename_i hc
                dsimp only
                rw [hs]
                exact And.intro hc.1 (And.intro hc.2 (ih _ _ _ _ _ _ _ _ he k1 k2))
              · cases he
            · cases he
          · cases he
        case aastore =>
          split at he
          · split at he
            · rename_i s q hs hq
              split at he
              · rename_i hc
                dsimp only
                rw [hs, hq]
                exact And.intro hc.1 (And.intro hc.2 (ih _ _ _ _ _ _ _ _ he k1 k2))
              · cases he
            · cases he
          · cases he
        case newarray =>
          split at he
          · split at he
            · rename_i hc; exact And.intro hc.1 (And.intro hc.2.1 (And.intro hc.2.2 (ih _ _ _ _ _ _ _ _ he k1 k2)))
            · cases he
          · cases he
        case anewarray =>
          split at he
          · split at he
            · rename_i hc; exact And.intro hc.1 (And.intro hc.2.1 (And.intro hc.2.2 (ih _ _ _ _ _ _ _ _ he k1 k2)))
            · cases he
          · cases he
        case new =>
          split at he
          · split at he
            · rename_i hc; exact And.intro hc (ih _ _ _ _ _ _ _ _ he k1 k2)
            · cases he
          · cases he
        case invokespecial =>
          split at he
          · split at he
            · split at he
              · rename_i hc
                split at he
                · rename_i h9 hce
                  exact And.intro hc.1 (And.intro hc.2 (hCE _ _ _ _ _ hce (ih _ _ _ _ _ _ _ _ he k1 k2)))
                · cases he
              · cases he
            · cases he
          · split at he
            · split at he
              · rename_i hc; exact And.intro hc (ih _ _ _ _ _ _ _ _ he k1 k2)
              · cases he
            · cases he
          · cases he
        case return_ =>
          split at he
          · cases he; exact k2 rfl
          · cases he
        all_goals cases he
/-- a constructor, run -/
def jx_ce : Nat → Nat → List jm_V → jm_H → Option jm_H
  | 0, _, _, _ => none
  | d + 1, f, vs, h => if (jm_loc vs).length ≤ jm_ma f then (match jx_go (jx_ce d) (h.1.length + jm_mc f, jm_tot h.1 + jm_ms f) (jm_PP f) 1000000 2000 0 (jm_loc vs ++ List.replicate (jm_ma f - (jm_loc vs).length) none) [] h with
    | some (false, _, _, h2) => if h2.1.length = h.1.length + jm_mc f ∧ jm_tot h2.1 = jm_tot h.1 + jm_ms f then some h2 else none
    | _ => none) else none
theorem jx_ce_sound (X : jm_X) : ∀ (d n : Nat) (vs : List jm_V) (h h2 : jm_H) (Q : jm_Q), jx_ce d n vs h = some h2 → Q [] h2 → jm_CW X jm_PP d n vs h Q
  | 0, _, _, _, _, _, he, _ => by simp [jx_ce] at he
  | d + 1, n, vs, h, h2, Q, he, hq => by
    unfold jx_ce at he
    split at he
    · rename_i hl
      split at he
      · rename_i L2 st2 h9 hgo
        split at he
        · rename_i hal
          cases he
          exact ⟨hl, jx_sound (jm_CW_mono X jm_PP d) (fun n vs h h2 Q a b => jx_ce_sound X d n vs h h2 Q a b) _ _ _ _ _ _ _ _ _ hgo (fun q => by cases q) (fun _ => ⟨hal, hq⟩)⟩
        · cases he
      · cases he
    · cases he
end
section
theorem jm_sem_C {X : jm_X} {C C' : jm_C} {B : Nat × Nat} {Q : jm_Q} {K : jm_K} (hC : ∀ n vs h Q, C n vs h Q → C' n vs h Q) (e : jm_E) (i : Nat) (L : jm_L) (st : List jm_V) (h : jm_H) :
    jm_sem X C B Q K e i L st h → jm_sem X C' B Q K e i L st h := by
  obtain ⟨pc, ins, len, res⟩ := e
  cases ins
  case invokevirtual =>
    simp only [jm_sem]
    split
    · split
      · split
        · exact fun q => ⟨q.1, hC _ _ _ _ q.2⟩
        · exact id
      · exact id
    · exact id
  case invokestatic =>
    simp only [jm_sem]
    split
    · exact fun q => ⟨q.1, hC _ _ _ _ q.2⟩
    · exact id
    · exact id
    · exact id
  case invokespecial =>
    simp only [jm_sem]
    split
    · split
      · exact fun q => ⟨q.1, q.2.1, hC _ _ _ _ q.2.2⟩
      · exact id
    · exact id
    · exact id
  all_goals exact id
/-- more calls may stand open -/
theorem jm_CW_s (X : jm_X) : ∀ (d n : Nat) (vs : List jm_V) (h : jm_H) (Q : jm_Q), jm_CW X jm_PP d n vs h Q → jm_CW X jm_PP (d + 1) n vs h Q
  | 0, _, _, _, _, q => q.elim
  | d + 1, n, vs, h, Q, q => ⟨q.1, fun K hK => q.2 K (fun i e L st h he z => hK i e L st h he (jm_sem_C (fun n vs h Q => jm_CW_s X d n vs h Q) e i L st h z))⟩
theorem jm_CW_le (X : jm_X) {d d' n : Nat} {vs : List jm_V} {h : jm_H} {Q : jm_Q} (hd : d ≤ d') (q : jm_CW X jm_PP d n vs h Q) : jm_CW X jm_PP d' n vs h Q := by
  induction hd with
  | refl => exact q
  | step _ ih => exact jm_CW_s X _ n vs h Q ih
theorem cV_le {X : jm_X} {d d' f : Nat} {vs : List jm_V} {μ : jm_M} {Q : jv_P} (hd : d ≤ d') (q : cV X d f vs μ Q) : cV X d' f vs μ Q := jm_CW_le X hd q
/-! the start: the two constructors have run -/
def jx_tab : List (Int × List Int) := [(4, [-1, -1, -1, -1, -1, -1, -1, -1]), (8, [10, 12, 14, 16]), (9, [18, 19, 20, 21, 22, 23]), (25, [27, 29, 31, 33]), (26, [35, 36, 37, 38, 39, 40]), (41, [60, 77]), (61, [63, 65, 67, 69]), (62, [71, 72, 73, 74, 75, 76]), (78, [80, 82, 84, 86]), (79, [88, 89, 90, 91, 92, 93]), (98, [-1, -1, -1, -1, -1, -1, -1, -1])]
def jx_want (i j : Nat) : Int := match jx_tab.find? (fun q => q.1 == (i : Int)) with
  | some q => q.2.getD j 0
  | none => 0
/-- all cells, all places in range -/
def jx_mem (μ : jm_M) : Bool := (List.range 104).all (fun i => (List.range (jm_SH.getD i (0, 0, [])).2.1).all (fun j => decide (μ i j = jx_want i j)))
def jx_okb (q : Option (Bool × jm_L × List jm_V × jm_H)) : Bool := match q with
  | some (b, L, st, h) => decide (b = true) && (decide (L = [some (.inr (.inr (-2))), some (.inr (.inr 0)), some (.inr (.inr 94)), some (.inl 0)]) && (decide (st = []) && (decide (h.1 = jm_SH) && jx_mem h.2)))
  | none => false
theorem jx_gen (q : Option (Bool × jm_L × List jm_V × jm_H)) (h : jx_okb q = true) : ∃ μ, q = some (true, [some (.inr (.inr (-2))), some (.inr (.inr 0)), some (.inr (.inr 94)), some (.inl 0)], [], (jm_SH, μ)) ∧ jx_mem μ = true := by
  match q, h with
  | some (b, L, st, (h1, h2)), h =>
    simp only [jx_okb, Bool.and_eq_true, decide_eq_true_eq] at h
    obtain ⟨rfl, rfl, rfl, rfl, h5⟩ := h
    exact ⟨h2, rfl, h5⟩
def jx_h0 : Option (Bool × jm_L × List jm_V × jm_H) := jx_go (jx_ce 8) (104, 4049) jm_p_L_law 10 100 0 [some (.inr (.inr (-2))), none, none, none] [] ([], fun _ _ => 0)
theorem jx_h0_ok : jx_okb jx_h0 = true := by decide +kernel
set_option maxRecDepth 100000 in
theorem jx_fin : ∃ μ, jx_h0 = some (true, [some (.inr (.inr (-2))), some (.inr (.inr 0)), some (.inr (.inr 94)), some (.inl 0)], [], (jm_SH, μ)) ∧ jx_mem μ = true := jx_gen jx_h0 jx_h0_ok
theorem jx_ce_up (X : jm_X) : ∀ (n : Nat) (vs : List jm_V) (h h2 : jm_H) (Q : jm_Q), jx_ce 8 n vs h = some h2 → Q [] h2 → jm_CW X jm_PP 200 n vs h Q := fun n vs h h2 Q a b => jm_CW_le X (by decide) (jx_ce_sound X 8 n vs h h2 Q a b)
/-- the law's run, from the constructors on -/
theorem jx_law {len : Nat} {sc : Int → Int} (k : ∀ μ, jx_mem μ = true → jV (jm_xt len sc) 200 jm_p_L_law (fun v _ => v = [.inl 1]) 10 [some (.inr (.inr (-2))), some (.inr (.inr 0)), some (.inr (.inr 94)), some (.inl 0)] [] μ) : jm_WP (jm_xt len sc) (jm_CW (jm_xt len sc) jm_PP 200) (104, 4049) jm_p_L_law (fun v _ => v = [.inl 1]) 0 [some (.inr (.inr (-2))), none, none, none] [] ([], fun _ _ => 0) := by
  obtain ⟨μ, h1, h2⟩ := jx_fin
  refine jx_sound (jm_CW_mono _ _ _) (jx_ce_up _) _ _ _ _ _ _ _ _ _ h1 (fun _ => ?_) (fun q => by cases q)
  exact jm_WP_Q (fun v h q => q.2) (k μ h2)
end
section
theorem jx_get {μ : jm_M} (h : jx_mem μ = true) (i : Nat) (n : Nat) (hn : (jm_SH.getD i (0, 0, [])).2.1 = n) (hi : i < 104) {j : Int} (j0 : 0 ≤ j) (j1 : j < n) : μ (i : Int) j = jx_want i j.toNat := by
  have h1 := List.all_eq_true.mp h i (List.mem_range.mpr hi)
  have h2 := List.all_eq_true.mp h1 j.toNat (List.mem_range.mpr (by rw [hn]; omega))
  have h3 := of_decide_eq_true h2
  rw [Int.toNat_of_nonneg j0] at h3
  exact h3
theorem jx_ids {μ : jm_M} (h : jx_mem μ = true) (i a s : Int) (n k : Nat) (hk : (k : Int) = i) (hn : (jm_SH.getD k (0, 0, [])).2.1 = n) (hi : k < 104) (hw : ∀ j : Nat, j < n → jx_want k j = a + s * (j : Int)) : ∀ m : Int, 0 ≤ m → m < (n : Int) → μ i m = a + s * m := by
  intro m m0 m1
  have h1 := jx_get h k n hn hi m0 m1
  rw [hk, hw m.toNat (by omega), Int.toNat_of_nonneg m0] at h1
  exact h1
set_option maxRecDepth 10000 in
theorem jI_start {μ : jm_M} (h : jx_mem μ = true) : jI μ := by
  have z95 : ∀ j, 0 ≤ j → j < 1736 → μ 95 j = 0 := fun j a b => jx_get h 95 1736 rfl (by decide) a b
  have z2 : ∀ j, 0 ≤ j → j < 320 → μ 2 j = 0 := fun j a b => jx_get h 2 320 rfl (by decide) a b
  have z99 : ∀ j, 0 ≤ j → j < 320 → μ 99 j = 0 := fun j a b => jx_get h 99 320 rfl (by decide) a b
  have z3 : ∀ j, 0 ≤ j → j < 8 → μ 3 j = 0 := fun j a b => jx_get h 3 8 rfl (by decide) a b
  have z97 : ∀ j, 0 ≤ j → j < 8 → μ 97 j = 0 := fun j a b => jx_get h 97 8 rfl (by decide) a b
  have z4 := jx_ids h 4 (-1) 0 8 4 rfl rfl (by decide) (by decide)
  have z98 := jx_ids h 98 (-1) 0 8 98 rfl rfl (by decide) (by decide)
  have z0 : ∀ j, 0 ≤ j → j < 12 → μ 0 j = 0 := fun j a b => jx_get h 0 12 rfl (by decide) a b
  have z94 : ∀ j, 0 ≤ j → j < 18 → μ 94 j = 0 := fun j a b => jx_get h 94 18 rfl (by decide) a b
  have z5 : ∀ j, 0 ≤ j → j < 4 → μ 5 j = 0 := fun j a b => jx_get h 5 4 rfl (by decide) a b
  have z7 : ∀ j, 0 ≤ j → j < 6 → μ 7 j = 0 := fun j a b => jx_get h 7 6 rfl (by decide) a b
  have z43 : ∀ j, 0 ≤ j → j < 3 → μ 43 j = 0 := fun j a b => jx_get h 43 3 rfl (by decide) a b
  have z58 : ∀ j, 0 ≤ j → j < 2 → μ 58 j = 0 := fun j a b => jx_get h 58 2 rfl (by decide) a b
  have z42 : ∀ j, 0 ≤ j → j < 2 → μ 42 j = 0 := fun j a b => jx_get h 42 2 rfl (by decide) a b
  have z96 : ∀ j, 0 ≤ j → j < 2 → μ 96 j = 0 := fun j a b => jx_get h 96 2 rfl (by decide) a b
  have i8 := jx_ids h 8 10 2 4 8 rfl rfl (by decide) (by decide)
  have i9 := jx_ids h 9 18 1 6 9 rfl rfl (by decide) (by decide)
  have i25 := jx_ids h 25 27 2 4 25 rfl rfl (by decide) (by decide)
  have i26 := jx_ids h 26 35 1 6 26 rfl rfl (by decide) (by decide)
  have i61 := jx_ids h 61 63 2 4 61 rfl rfl (by decide) (by decide)
  have i62 := jx_ids h 62 71 1 6 62 rfl rfl (by decide) (by decide)
  have i78 := jx_ids h 78 80 2 4 78 rfl rfl (by decide) (by decide)
  have i79 := jx_ids h 79 88 1 6 79 rfl rfl (by decide) (by decide)
  have i41 := jx_ids h 41 60 17 2 41 rfl rfl (by decide) (by decide)
  have s11 : ∀ k, 0 ≤ k → k < 6 → μ 11 k = 0 := fun j a b => jx_get h 11 6 rfl (by decide) a b
  have s13 : ∀ k, 0 ≤ k → k < 6 → μ 13 k = 0 := fun j a b => jx_get h 13 6 rfl (by decide) a b
  have s15 : ∀ k, 0 ≤ k → k < 6 → μ 15 k = 0 := fun j a b => jx_get h 15 6 rfl (by decide) a b
  have s17 : ∀ k, 0 ≤ k → k < 6 → μ 17 k = 0 := fun j a b => jx_get h 17 6 rfl (by decide) a b
  have hwf : jt_wf (μ 95) := by
    have l0 : ∀ m, 0 ≤ m → m < 4 → jt_lies (μ 95) m = 0 := by
      intro m m0 m1
      unfold jt_lies
      rw [z95 _ (by omega) (by omega), z95 _ (by omega) (by omega), z95 _ (by omega) (by omega), z95 _ (by omega) (by omega), z95 _ (by omega) (by omega), z95 _ (by omega) (by omega)]
      rfl
    refine ⟨by rw [z95 _ (by omega) (by omega)]; decide, by rw [z95 _ (by omega) (by omega)]; decide, by rw [z95 _ (by omega) (by omega)]; decide, by rw [z95 _ (by omega) (by omega)]; decide, fun m m0 m1 => by rw [z95 _ (by omega) (by omega)]; decide, fun j j0 j1 => by rw [z95 _ (by omega) (by omega)]; decide, fun m m0 m1 => by rw [l0 m m0 m1, z95 _ (by omega) (by omega)]; decide, fun c c0 c1 => ?_⟩
    rw [z95 _ (by omega) (by omega), z95 _ (by omega) (by omega), z95 _ (by omega) (by omega), z95 _ (by omega) (by omega)]
    decide
  have m0 : μ 95 0 = 0 := z95 0 (by decide) (by decide)
  have m1 : μ 95 1 = 0 := z95 1 (by decide) (by decide)
  refine ⟨⟨fun j a b => by rw [z2 j a b, z99 j a b], fun r a b => ?_⟩, ⟨?_, ?_, ?_⟩, ⟨?_, ?_, ?_⟩, ⟨?_, ?_⟩, ⟨hwf, ?_, ?_, ?_, ?_, ?_, ?_, ?_⟩, ⟨?_, ?_, ?_, ?_⟩, ⟨?_, ?_⟩, ⟨?_, ?_, ?_, ?_⟩⟩
  · have h4 := z4 r a b
    have h8 := z98 r a b
    rw [z3 r a b, z97 r a b]
    omega
  · rw [z5 1 (by decide) (by decide), z94 8 (by decide) (by decide)]
  · rw [z94 8 (by decide) (by decide)]; decide
  · intro j a b; rw [z94 8 (by decide) (by decide)] at b; omega
  · rw [z58 1 (by decide) (by decide), z94 12 (by decide) (by decide)]
  · rw [z94 12 (by decide) (by decide)]; decide
  · intro j a b; rw [z94 12 (by decide) (by decide)] at b; omega
  · rw [z0 11 (by decide) (by decide), z94 10 (by decide) (by decide)]
  · rw [z0 10 (by decide) (by decide), z94 9 (by decide) (by decide)]
  · intro c c0 c1; rw [z95 _ (by omega) (by omega)]; decide
  · intro c c0 c1; rw [m1] at c1; omega
  · refine ⟨fun m a b => ?_, fun m m' a b a' b' q => ?_, fun c a b => ?_⟩
    · have := i8 m a b
      show μ 8 m = _ ∨ μ 8 m = _ ∨ μ 8 m = _ ∨ μ 8 m = _
      omega
    · have q : μ 8 m = μ 8 m' := q
      have := i8 m a b
      have := i8 m' a' b'
      omega
    · have := i9 c a b
      show μ 9 c = _
      omega
  · refine ⟨⟨by rw [z7 _ (by decide) (by decide), z95 _ (by decide) (by decide)], by rw [z7 _ (by decide) (by decide), z95 _ (by decide) (by decide)], by rw [z7 _ (by decide) (by decide), z95 _ (by decide) (by decide)], by rw [z7 _ (by decide) (by decide), z95 _ (by decide) (by decide)]⟩, fun m a b => by rw [m0] at b; omega, fun m a b k k0 k1 => ?_, fun c a b => by rw [m1] at b; omega⟩
    rw [m0] at a
    have hm := i8 m a b
    show μ (μ 8 m + 1) k = 0
    rw [hm]
    rcases (show m = 0 ∨ m = 1 ∨ m = 2 ∨ m = 3 by omega) with rfl | rfl | rfl | rfl
    · exact s11 k k0 k1
    · exact s13 k k0 k1
    · exact s15 k k0 k1
    · exact s17 k k0 k1
  · left; exact z94 1 (by decide) (by decide)
  · rw [z94 1 (by decide) (by decide), m0]; decide
  · intro _; exact m1
  · intro m a b
    have := i25 m a b
    have := i61 m a b
    have := i78 m a b
    omega
  · intro m a b
    have := i26 m a b
    have := i62 m a b
    have := i79 m a b
    omega
  · exact i41 0 (by decide) (by decide)
  · exact i41 1 (by decide) (by decide)
  · exact ⟨by rw [z42 0 (by decide) (by decide), z96 0 (by decide) (by decide)], Or.inl (z96 0 (by decide) (by decide)), fun q => by rw [z96 0 (by decide) (by decide)] at q; cases q⟩
  · exact ⟨by rw [z42 1 (by decide) (by decide), z96 1 (by decide) (by decide)], Or.inl (z96 1 (by decide) (by decide)), fun q => by rw [z96 1 (by decide) (by decide)] at q; cases q⟩
  · rw [z94 2 (by decide) (by decide)]; decide
  · rw [z43 2 (by decide) (by decide), z94 2 (by decide) (by decide)]
  · rw [z43 1 (by decide) (by decide)]; decide
  · intro k a b; rw [z94 2 (by decide) (by decide)] at b; omega
/-- the law, out of the pairs -/
theorem jx_run {len : Nat} {sc : Int → Int} (hlen : len ≤ 384) (hsc : ∀ j, jm_r (sc j)) (hp : jp_all len sc) : jm_WP (jm_xt len sc) (jm_CW (jm_xt len sc) jm_PP 200) (104, 4049) jm_p_L_law (fun v _ => v = [.inl 1]) 0 [some (.inr (.inr (-2))), none, none, none] [] ([], fun _ _ => 0) :=
  jx_law (fun μ hm => law_loop hlen hsc hp 400 0 μ (jI_start hm) (by decide) (by omega) (by decide))
end
section
/-! the class's small methods -/
section CB
variable {X : jm_X} {d : Nat} {P : List jm_E} {Q : jv_P} {i j : Nat} {L L2 : jm_L} {st r : List jm_V} {μ : jm_M} {pc len : Nat} {res : List Int}
theorem jv_aaloadv {z a v : Int} {kd ln : Nat} {rf : List Int} (he : P[i]? = some (pc, .aaload, len, res)) (hj : i + 1 = j) (hs : jm_SH[z.toNat]? = some (kd, ln, rf)) (hz : 0 ≤ z ∧ 2 ≤ kd ∧ kd < 5) (hb : 0 ≤ a ∧ a < ln) (hv : μ z a = v) (k : jV X d P Q j L (.inr (.inr v) :: r) μ) : jV X d P Q i L (.inl a :: .inr (.inr z) :: r) μ := by
  subst hv
  exact jv_aaload he hj hs hz hb k
theorem jv_one {a b : Int} (h : a = b) : ([.inl a] : List jm_V) = [.inl b] := by rw [h]
end CB
def jz_com (z : Int) : Prop := jm_SH[z.toNat]? = some (11, 5, [-1, -1, -1, -1, -1]) ∧ 0 ≤ z ∧ z < 94
def jz_mat (z : Int) : Prop := jm_SH[z.toNat]? = some (15, 2, [-1, z + 1]) ∧ jm_SH[(z + 1).toNat]? = some (0, 6, []) ∧ 0 ≤ z ∧ z < 94
theorem jz_com_of {z : Int} (h : z = 18 ∨ z = 19 ∨ z = 20 ∨ z = 21 ∨ z = 22 ∨ z = 23 ∨ z = 35 ∨ z = 36 ∨ z = 37 ∨ z = 38 ∨ z = 39 ∨ z = 40 ∨ z = 54 ∨ z = 71 ∨ z = 72 ∨ z = 73 ∨ z = 74 ∨ z = 75 ∨ z = 76 ∨ z = 88 ∨ z = 89 ∨ z = 90 ∨ z = 91 ∨ z = 92 ∨ z = 93) : jz_com z := by
  rcases h with rfl | rfl | rfl | rfl | rfl | rfl | rfl | rfl | rfl | rfl | rfl | rfl | rfl | rfl | rfl | rfl | rfl | rfl | rfl | rfl | rfl | rfl | rfl | rfl | rfl <;> exact ⟨rfl, by decide, by decide⟩
theorem jz_mat_of {z : Int} (h : z = 10 ∨ z = 12 ∨ z = 14 ∨ z = 16 ∨ z = 27 ∨ z = 29 ∨ z = 31 ∨ z = 33 ∨ z = 63 ∨ z = 65 ∨ z = 67 ∨ z = 69 ∨ z = 80 ∨ z = 82 ∨ z = 84 ∨ z = 86) : jz_mat z := by
  rcases h with rfl | rfl | rfl | rfl | rfl | rfl | rfl | rfl | rfl | rfl | rfl | rfl | rfl | rfl | rfl | rfl <;> exact ⟨rfl, rfl, by decide, by decide⟩
theorem jz_com7 {c : Int} (h0 : 0 ≤ c) (h1 : c < 6) : jz_com (18 + c) := jz_com_of (by omega)
theorem jz_mat7 {μ : jm_M} (h : jh_mats μ 7) {m : Int} (h0 : 0 ≤ m) (h1 : m < 4) : jz_mat (μ 8 m) := jz_mat_of (by have : μ 8 m = 7 + 3 ∨ μ 8 m = 7 + 5 ∨ μ 8 m = 7 + 7 ∨ μ 8 m = 7 + 9 := h.1 m h0 h1; omega)
set_option maxRecDepth 10000 in
theorem cl_noRow {X : jm_X} {d : Nat} {Q : jv_P} {μ : jm_M} {r : Int} (k1 : r < 0 ∨ 8 ≤ r → Q [.inl 1] μ) (k0 : ¬ (r < 0 ∨ 8 ≤ r) → Q [.inl 0] μ) : cV X (d + 1) 124 [.inl r] μ Q := by
  refine jv_enter (d := d + 0) jm_p_X9_noRow [some (.inl r)] rfl rfl rfl (Nat.le_of_ble_eq_true rfl) rfl rfl ?_
  refine jv_iload_n rfl rfl rfl ?_
  refine jv_if_lt rfl rfl rfl (fun c1 => ?_) (fun c1 => ?_)
  · refine jv_iconst rfl rfl ?_
    refine jv_goto rfl rfl ?_
    refine jv_ireturn rfl (Or.inr ⟨rfl, by decide⟩) ?_
    exact k1 (by omega)
  · refine jv_iload_n rfl rfl rfl ?_
    refine jv_bipush rfl rfl ?_
    refine jv_icmp_lt rfl rfl rfl (fun c4 => ?_) (fun c4 => ?_)
    · refine jv_iconst rfl rfl ?_
      refine jv_ireturn rfl (Or.inr ⟨rfl, by decide⟩) ?_
      exact k0 (by omega)
    · refine jv_iconst rfl rfl ?_
      refine jv_goto rfl rfl ?_
      refine jv_ireturn rfl (Or.inr ⟨rfl, by decide⟩) ?_
      exact k1 (by omega)
set_option maxRecDepth 10000 in
theorem cl_noImage {X : jm_X} {d : Nat} {Q : jv_P} {μ : jm_M} {r : Int} (k1 : r < 0 ∨ 2 ≤ r → Q [.inl 1] μ) (k0 : ¬ (r < 0 ∨ 2 ≤ r) → Q [.inl 0] μ) : cV X (d + 1) 125 [.inl r] μ Q := by
  refine jv_enter (d := d + 0) jm_p_X9_noImage [some (.inl r)] rfl rfl rfl (Nat.le_of_ble_eq_true rfl) rfl rfl ?_
  refine jv_iload_n rfl rfl rfl ?_
  refine jv_if_lt rfl rfl rfl (fun c1 => ?_) (fun c1 => ?_)
  · refine jv_iconst rfl rfl ?_
    refine jv_goto rfl rfl ?_
    refine jv_ireturn rfl (Or.inr ⟨rfl, by decide⟩) ?_
    exact k1 (by omega)
  · refine jv_iload_n rfl rfl rfl ?_
    refine jv_iconst rfl rfl ?_
    refine jv_icmp_lt rfl rfl rfl (fun c4 => ?_) (fun c4 => ?_)
    · refine jv_iconst rfl rfl ?_
      refine jv_ireturn rfl (Or.inr ⟨rfl, by decide⟩) ?_
      exact k0 (by omega)
    · refine jv_iconst rfl rfl ?_
      refine jv_goto rfl rfl ?_
      refine jv_ireturn rfl (Or.inr ⟨rfl, by decide⟩) ?_
      exact k1 (by omega)
set_option maxRecDepth 10000 in
theorem cl_noCarried {X : jm_X} {d : Nat} {Q : jv_P} {μ : jm_M} {r : Int} (k1 : r < 0 ∨ 200 < r → Q [.inl 1] μ) (k0 : ¬ (r < 0 ∨ 200 < r) → Q [.inl 0] μ) : cV X (d + 1) 126 [.inl r] μ Q := by
  refine jv_enter (d := d + 0) jm_p_X9_noCarried [some (.inl r)] rfl rfl rfl (Nat.le_of_ble_eq_true rfl) rfl rfl ?_
  refine jv_iload_n rfl rfl rfl ?_
  refine jv_if_lt rfl rfl rfl (fun c1 => ?_) (fun c1 => ?_)
  · refine jv_iconst rfl rfl ?_
    refine jv_goto rfl rfl ?_
    refine jv_ireturn rfl (Or.inr ⟨rfl, by decide⟩) ?_
    exact k1 (by omega)
  · refine jv_iload_n rfl rfl rfl ?_
    refine jv_sipush rfl rfl ?_
    refine jv_icmp_le rfl rfl rfl (fun c4 => ?_) (fun c4 => ?_)
    · refine jv_iconst rfl rfl ?_
      refine jv_ireturn rfl (Or.inr ⟨rfl, by decide⟩) ?_
      exact k0 (by omega)
    · refine jv_iconst rfl rfl ?_
      refine jv_goto rfl rfl ?_
      refine jv_ireturn rfl (Or.inr ⟨rfl, by decide⟩) ?_
      exact k1 (by omega)
set_option maxRecDepth 10000 in
theorem cl_neither {X : jm_X} {d : Nat} {Q : jv_P} {μ : jm_M} {r : Int} (k1 : r ≠ 0 ∧ r ≠ 1 → Q [.inl 1] μ) (k0 : ¬ (r ≠ 0 ∧ r ≠ 1) → Q [.inl 0] μ) : cV X (d + 1) 127 [.inl r] μ Q := by
  refine jv_enter (d := d + 0) jm_p_X9_neither [some (.inl r)] rfl rfl rfl (Nat.le_of_ble_eq_true rfl) rfl rfl ?_
  refine jv_iload_n rfl rfl rfl ?_
  refine jv_if_eq rfl rfl rfl (fun c1 => ?_) (fun c1 => ?_)
  · refine jv_iconst rfl rfl ?_
    refine jv_ireturn rfl (Or.inr ⟨rfl, by decide⟩) ?_
    exact k0 (by omega)
  · refine jv_iload_n rfl rfl rfl ?_
    refine jv_iconst rfl rfl ?_
    refine jv_icmp_eq rfl rfl rfl (fun c4 => ?_) (fun c4 => ?_)
    · refine jv_iconst rfl rfl ?_
      refine jv_ireturn rfl (Or.inr ⟨rfl, by decide⟩) ?_
      exact k0 (by omega)
    · refine jv_iconst rfl rfl ?_
      refine jv_goto rfl rfl ?_
      refine jv_ireturn rfl (Or.inr ⟨rfl, by decide⟩) ?_
      exact k1 (by omega)
set_option maxRecDepth 10000 in
theorem cl_noHotel {X : jm_X} {d : Nat} {Q : jv_P} {μ : jm_M}  (k1 : μ 7 2 = 0 → Q [.inl 1] μ) (k0 : ¬ (μ 7 2 = 0) → Q [.inl 0] μ) : cV X (d + 1) 128 [.inr (.inr 0)] μ Q := by
  refine jv_enter (d := d + 0) jm_p_X9_noHotel [some (.inr (.inr 0))] rfl rfl rfl (Nat.le_of_ble_eq_true rfl) rfl rfl ?_
  refine jv_aload_n rfl rfl rfl (by decide) ?_
  refine jv_getr (w := 7) rfl rfl rfl ⟨by decide, rfl⟩ rfl rfl ?_
  refine jv_geti rfl rfl rfl ⟨by decide, rfl⟩ (by decide) ?_
  refine jv_if_ne rfl rfl rfl (fun c3 => ?_) (fun c3 => ?_)
  · refine jv_iconst rfl rfl ?_
    refine jv_ireturn rfl (Or.inr ⟨rfl, by decide⟩) ?_
    exact k0 (by omega)
  · refine jv_iconst rfl rfl ?_
    refine jv_goto rfl rfl ?_
    refine jv_ireturn rfl (Or.inr ⟨rfl, by decide⟩) ?_
    exact k1 (by omega)
set_option maxRecDepth 10000 in
theorem cl_noComer {X : jm_X} {d : Nat} {Q : jv_P} {μ : jm_M} {c : Int} (k1 : c < 0 ∨ μ 7 3 ≤ c → Q [.inl 1] μ) (k0 : ¬ (c < 0 ∨ μ 7 3 ≤ c) → Q [.inl 0] μ) : cV X (d + 1) 129 [.inr (.inr 0), .inl c] μ Q := by
  refine jv_enter (d := d + 0) jm_p_X9_noComer [some (.inr (.inr 0)), some (.inl c)] rfl rfl rfl (Nat.le_of_ble_eq_true rfl) rfl rfl ?_
  refine jv_iload_n rfl rfl rfl ?_
  refine jv_if_lt rfl rfl rfl (fun c1 => ?_) (fun c1 => ?_)
  · refine jv_iconst rfl rfl ?_
    refine jv_goto rfl rfl ?_
    refine jv_ireturn rfl (Or.inr ⟨rfl, by decide⟩) ?_
    exact k1 (by omega)
  · refine jv_iload_n rfl rfl rfl ?_
    refine jv_aload_n rfl rfl rfl (by decide) ?_
    refine jv_getr (w := 7) rfl rfl rfl ⟨by decide, rfl⟩ rfl rfl ?_
    refine jv_geti rfl rfl rfl ⟨by decide, rfl⟩ (by decide) ?_
    refine jv_icmp_lt rfl rfl rfl (fun c6 => ?_) (fun c6 => ?_)
    · refine jv_iconst rfl rfl ?_
      refine jv_ireturn rfl (Or.inr ⟨rfl, by decide⟩) ?_
      exact k0 (by omega)
    · refine jv_iconst rfl rfl ?_
      refine jv_goto rfl rfl ?_
      refine jv_ireturn rfl (Or.inr ⟨rfl, by decide⟩) ?_
      exact k1 (by omega)
set_option maxRecDepth 10000 in
theorem cl_noMat {X : jm_X} {d : Nat} {Q : jv_P} {μ : jm_M} {c : Int} (k1 : c < 0 ∨ μ 7 2 ≤ c → Q [.inl 1] μ) (k0 : ¬ (c < 0 ∨ μ 7 2 ≤ c) → Q [.inl 0] μ) : cV X (d + 1) 130 [.inr (.inr 0), .inl c] μ Q := by
  refine jv_enter (d := d + 0) jm_p_X9_noMat [some (.inr (.inr 0)), some (.inl c)] rfl rfl rfl (Nat.le_of_ble_eq_true rfl) rfl rfl ?_
  refine jv_iload_n rfl rfl rfl ?_
  refine jv_if_lt rfl rfl rfl (fun c1 => ?_) (fun c1 => ?_)
  · refine jv_iconst rfl rfl ?_
    refine jv_goto rfl rfl ?_
    refine jv_ireturn rfl (Or.inr ⟨rfl, by decide⟩) ?_
    exact k1 (by omega)
  · refine jv_iload_n rfl rfl rfl ?_
    refine jv_aload_n rfl rfl rfl (by decide) ?_
    refine jv_getr (w := 7) rfl rfl rfl ⟨by decide, rfl⟩ rfl rfl ?_
    refine jv_geti rfl rfl rfl ⟨by decide, rfl⟩ (by decide) ?_
    refine jv_icmp_lt rfl rfl rfl (fun c6 => ?_) (fun c6 => ?_)
    · refine jv_iconst rfl rfl ?_
      refine jv_ireturn rfl (Or.inr ⟨rfl, by decide⟩) ?_
      exact k0 (by omega)
    · refine jv_iconst rfl rfl ?_
      refine jv_goto rfl rfl ?_
      refine jv_ireturn rfl (Or.inr ⟨rfl, by decide⟩) ?_
      exact k1 (by omega)
set_option maxRecDepth 10000 in
theorem cl_found {X : jm_X} {d : Nat} {Q : jv_P} {μ : jm_M} {w : Int} (hw : 0 ≤ w ∧ w ≤ 9) (k : ∀ μ2, μ2 = jm_uc μ 0 (jm_u1 (μ 0) 11 w) → Q [.inl (-1000010 - w)] μ2) : cV X (d + 1) 131 [.inr (.inr 0), .inl w] μ Q := by
  refine jv_enter (d := d + 0) jm_p_X9_found [some (.inr (.inr 0)), some (.inl w)] rfl rfl rfl (Nat.le_of_ble_eq_true rfl) rfl rfl ?_
  refine jv_aload_n rfl rfl rfl (by decide) ?_
  refine jv_iload_n rfl rfl rfl ?_
  refine jv_puti rfl rfl rfl ⟨by decide, rfl⟩ (Or.inl rfl) (fun μ2 eμ2 => ?_)
  refine jv_ldc_w rfl rfl ?_
  refine jv_iload_n rfl rfl rfl ?_
  refine jv_isub rfl rfl ⟨by omega, by omega⟩ ?_
  refine jv_ireturn rfl (Or.inl rfl) ?_
  exact k _ eμ2
set_option maxRecDepth 10000 in
theorem cl_unfound {X : jm_X} {d : Nat} {Q : jv_P} {μ : jm_M} {w : Int} (k : ∀ μ2, μ2 = jm_uc μ 0 (jm_u1 (μ 0) 11 0) → Q [.inl w] μ2) : cV X (d + 1) 132 [.inr (.inr 0), .inl w] μ Q := by
  refine jv_enter (d := d + 0) jm_p_X9_unfound [some (.inr (.inr 0)), some (.inl w)] rfl rfl rfl (Nat.le_of_ble_eq_true rfl) rfl rfl ?_
  refine jv_aload_n rfl rfl rfl (by decide) ?_
  refine jv_iconst rfl rfl ?_
  refine jv_puti rfl rfl rfl ⟨by decide, rfl⟩ (Or.inl rfl) (fun μ2 eμ2 => ?_)
  refine jv_iload_n rfl rfl rfl ?_
  refine jv_ireturn rfl (Or.inl rfl) ?_
  exact k _ eμ2
set_option maxRecDepth 10000 in
theorem cl_isMissing {X : jm_X} {d : Nat} {Q : jv_P} {μ : jm_M} {r : Int} (hr : 0 ≤ r ∧ r < 8) (k1 : μ 4 r = -1 → Q [.inl 1] μ) (k0 : ¬ (μ 4 r = -1) → Q [.inl 0] μ) : cV X (d + 1) 73 [.inr (.inr 1), .inl r] μ Q := by
  refine jv_enter (d := d + 0) jm_p_X7_isMissing [some (.inr (.inr 1)), some (.inl r)] rfl rfl rfl (Nat.le_of_ble_eq_true rfl) rfl rfl ?_
  refine jv_aload_n rfl rfl rfl (by decide) ?_
  refine jv_getr (w := 4) rfl rfl rfl ⟨by decide, rfl⟩ rfl rfl ?_
  refine jv_iload_n rfl rfl rfl ?_
  refine jv_iaload rfl rfl (by decide) rfl ⟨by omega, by omega⟩ ?_
  refine jv_iconst rfl rfl ?_
  refine jv_icmp_ne rfl rfl rfl (fun c5 => ?_) (fun c5 => ?_)
  · refine jv_iconst rfl rfl ?_
    refine jv_ireturn rfl (Or.inr ⟨rfl, by decide⟩) ?_
    exact k0 (by omega)
  · refine jv_iconst rfl rfl ?_
    refine jv_goto rfl rfl ?_
    refine jv_ireturn rfl (Or.inr ⟨rfl, by decide⟩) ?_
    exact k1 (by omega)
set_option maxRecDepth 10000 in
theorem cl_sameLane {X : jm_X} {d : Nat} {Q : jv_P} {μ : jm_M} {a b : Int} (ha : 0 ≤ a ∧ a < 8) (hb : 0 ≤ b ∧ b < 8) (k1 : μ 3 a = μ 3 b → Q [.inl 1] μ) (k0 : ¬ (μ 3 a = μ 3 b) → Q [.inl 0] μ) : cV X (d + 1) 74 [.inr (.inr 1), .inl a, .inl b] μ Q := by
  refine jv_enter (d := d + 0) jm_p_X7_sameLane [some (.inr (.inr 1)), some (.inl a), some (.inl b)] rfl rfl rfl (Nat.le_of_ble_eq_true rfl) rfl rfl ?_
  refine jv_aload_n rfl rfl rfl (by decide) ?_
  refine jv_getr (w := 3) rfl rfl rfl ⟨by decide, rfl⟩ rfl rfl ?_
  refine jv_iload_n rfl rfl rfl ?_
  refine jv_iaload rfl rfl (by decide) rfl ⟨by omega, by omega⟩ ?_
  refine jv_aload_n rfl rfl rfl (by decide) ?_
  refine jv_getr (w := 3) rfl rfl rfl ⟨by decide, rfl⟩ rfl rfl ?_
  refine jv_iload_n rfl rfl rfl ?_
  refine jv_iaload rfl rfl (by decide) rfl ⟨by omega, by omega⟩ ?_
  refine jv_icmp_ne rfl rfl rfl (fun c8 => ?_) (fun c8 => ?_)
  · refine jv_iconst rfl rfl ?_
    refine jv_ireturn rfl (Or.inr ⟨rfl, by decide⟩) ?_
    exact k0 (by omega)
  · refine jv_iconst rfl rfl ?_
    refine jv_goto rfl rfl ?_
    refine jv_ireturn rfl (Or.inr ⟨rfl, by decide⟩) ?_
    exact k1 (by omega)
set_option maxRecDepth 10000 in
theorem cl_reaches {X : jm_X} {d : Nat} {Q : jv_P} {μ : jm_M} {r a n : Int} (hr : 0 ≤ r ∧ r < 8) (hs : -1 ≤ μ 4 r ∧ μ 4 r ≤ 40) (hn : jm_r n) (k1 : 0 ≤ a ∧ 0 ≤ n ∧ a + n ≤ μ 4 r → Q [.inl 1] μ) (k0 : ¬ (0 ≤ a ∧ 0 ≤ n ∧ a + n ≤ μ 4 r) → Q [.inl 0] μ) : cV X (d + 1) 75 [.inr (.inr 1), .inl r, .inl a, .inl n] μ Q := by
  refine jv_enter (d := d + 0) jm_p_X7_reaches [some (.inr (.inr 1)), some (.inl r), some (.inl a), some (.inl n)] rfl rfl rfl (Nat.le_of_ble_eq_true rfl) rfl rfl ?_
  refine jv_iload_n rfl rfl rfl ?_
  refine jv_if_lt rfl rfl rfl (fun c1 => ?_) (fun c1 => ?_)
  · refine jv_iconst rfl rfl ?_
    refine jv_ireturn rfl (Or.inr ⟨rfl, by decide⟩) ?_
    exact k0 (by omega)
  · refine jv_iload_n rfl rfl rfl ?_
    refine jv_if_lt rfl rfl rfl (fun c3 => ?_) (fun c3 => ?_)
    · refine jv_iconst rfl rfl ?_
      refine jv_ireturn rfl (Or.inr ⟨rfl, by decide⟩) ?_
      exact k0 (by omega)
    · refine jv_iload_n rfl rfl rfl ?_
      refine jv_aload_n rfl rfl rfl (by decide) ?_
      refine jv_getr (w := 4) rfl rfl rfl ⟨by decide, rfl⟩ rfl rfl ?_
      refine jv_iload_n rfl rfl rfl ?_
      refine jv_iaload rfl rfl (by decide) rfl ⟨by omega, by omega⟩ ?_
      refine jv_iload_n rfl rfl rfl ?_
      refine jv_isub rfl rfl ⟨by omega, by omega⟩ ?_
      refine jv_icmp_gt rfl rfl rfl (fun c11 => ?_) (fun c11 => ?_)
      · refine jv_iconst rfl rfl ?_
        refine jv_ireturn rfl (Or.inr ⟨rfl, by decide⟩) ?_
        exact k0 (by omega)
      · refine jv_iconst rfl rfl ?_
        refine jv_goto rfl rfl ?_
        refine jv_ireturn rfl (Or.inr ⟨rfl, by decide⟩) ?_
        exact k1 (by omega)
set_option maxRecDepth 10000 in
theorem mo_isComer {X : jm_X} {d : Nat} {Q : jv_P} {μ : jm_M} {c : Int} (h1 : 0 ≤ μ 95 1 ∧ μ 95 1 ≤ 6) (k1 : 0 ≤ c ∧ c ≤ μ 95 1 - 1 → Q [.inl 1] μ) (k0 : ¬ (0 ≤ c ∧ c ≤ μ 95 1 - 1) → Q [.inl 0] μ) : cV X (d + 2) 164 [.inr (.inr 94), .inl c] μ Q := by
  refine jv_enter (d := d + 1) jm_p_X10_isComer [some (.inr (.inr 94)), some (.inl c)] rfl rfl rfl (Nat.le_of_ble_eq_true rfl) rfl rfl ?_
  refine jv_iload_n rfl rfl rfl ?_
  refine jv_i2l rfl rfl ?_
  refine jv_lconst rfl rfl ?_
  refine jv_aload_n rfl rfl rfl (by decide) ?_
  refine jv_getr (w := 95) rfl rfl rfl ⟨by decide, rfl⟩ rfl rfl ?_
  refine jv_iconst rfl rfl ?_
  refine jv_iaload rfl rfl (by decide) rfl ⟨by omega, by omega⟩ ?_
  refine jv_iconst rfl rfl ?_
  refine jv_isub rfl rfl ⟨by omega, by omega⟩ ?_
  refine jv_i2l rfl rfl ?_
  refine jv_callS3 rfl rfl rfl (Nat.le_of_ble_eq_true rfl) (mo_in (fun b10 => ?_) (fun b10 => ?_))
  · show jV _ _ jm_p_X10_isComer _ 11 [some (.inr (.inr 94)), some (.inl c)] [.inl 1] μ
    refine jv_ireturn rfl (Or.inr ⟨rfl, by decide⟩) ?_
    exact k1 (by omega)
  · show jV _ _ jm_p_X10_isComer _ 11 [some (.inr (.inr 94)), some (.inl c)] [.inl 0] μ
    refine jv_ireturn rfl (Or.inr ⟨rfl, by decide⟩) ?_
    exact k0 (by omega)
set_option maxRecDepth 10000 in
theorem mo_isMat {X : jm_X} {d : Nat} {Q : jv_P} {μ : jm_M} {c : Int} (h1 : 0 ≤ μ 95 0 ∧ μ 95 0 ≤ 4) (k1 : 0 ≤ c ∧ c ≤ μ 95 0 - 1 → Q [.inl 1] μ) (k0 : ¬ (0 ≤ c ∧ c ≤ μ 95 0 - 1) → Q [.inl 0] μ) : cV X (d + 2) 165 [.inr (.inr 94), .inl c] μ Q := by
  refine jv_enter (d := d + 1) jm_p_X10_isMat [some (.inr (.inr 94)), some (.inl c)] rfl rfl rfl (Nat.le_of_ble_eq_true rfl) rfl rfl ?_
  refine jv_iload_n rfl rfl rfl ?_
  refine jv_i2l rfl rfl ?_
  refine jv_lconst rfl rfl ?_
  refine jv_aload_n rfl rfl rfl (by decide) ?_
  refine jv_getr (w := 95) rfl rfl rfl ⟨by decide, rfl⟩ rfl rfl ?_
  refine jv_iconst rfl rfl ?_
  refine jv_iaload rfl rfl (by decide) rfl ⟨by omega, by omega⟩ ?_
  refine jv_iconst rfl rfl ?_
  refine jv_isub rfl rfl ⟨by omega, by omega⟩ ?_
  refine jv_i2l rfl rfl ?_
  refine jv_callS3 rfl rfl rfl (Nat.le_of_ble_eq_true rfl) (mo_in (fun b10 => ?_) (fun b10 => ?_))
  · show jV _ _ jm_p_X10_isMat _ 11 [some (.inr (.inr 94)), some (.inl c)] [.inl 1] μ
    refine jv_ireturn rfl (Or.inr ⟨rfl, by decide⟩) ?_
    exact k1 (by omega)
  · show jV _ _ jm_p_X10_isMat _ 11 [some (.inr (.inr 94)), some (.inl c)] [.inl 0] μ
    refine jv_ireturn rfl (Or.inr ⟨rfl, by decide⟩) ?_
    exact k0 (by omega)
set_option maxRecDepth 10000 in
theorem mo_isSpan {X : jm_X} {d : Nat} {Q : jv_P} {μ : jm_M} {r a n : Int} (hr : 0 ≤ r ∧ r < 8) (hs : -1 ≤ μ 98 r ∧ μ 98 r ≤ 40) (hn : jm_r n) (ha : jm_r a) (k1 : 0 ≤ a ∧ 0 ≤ n ∧ a + n ≤ μ 98 r → Q [.inl 1] μ) (k0 : ¬ (0 ≤ a ∧ 0 ≤ n ∧ a + n ≤ μ 98 r) → Q [.inl 0] μ) : cV X (d + 1) 144 [.inr (.inr 94), .inl r, .inl a, .inl n] μ Q := by
  refine jv_enter (d := d + 0) jm_p_X10_isSpan [some (.inr (.inr 94)), some (.inl r), some (.inl a), some (.inl n)] rfl rfl rfl (Nat.le_of_ble_eq_true rfl) rfl rfl ?_
  refine jv_iload_n rfl rfl rfl ?_
  refine jv_if_lt rfl rfl rfl (fun c1 => ?_) (fun c1 => ?_)
  · refine jv_iconst rfl rfl ?_
    refine jv_ireturn rfl (Or.inr ⟨rfl, by decide⟩) ?_
    exact k0 (by (try split at *) <;> omega)
  · refine jv_iload_n rfl rfl rfl ?_
    refine jv_if_lt rfl rfl rfl (fun c3 => ?_) (fun c3 => ?_)
    · refine jv_iconst rfl rfl ?_
      refine jv_ireturn rfl (Or.inr ⟨rfl, by decide⟩) ?_
      exact k0 (by (try split at *) <;> omega)
    · refine jv_iload_n rfl rfl rfl ?_
      refine jv_i2l rfl rfl ?_
      refine jv_iload_n rfl rfl rfl ?_
      refine jv_i2l rfl rfl ?_
      refine jv_ladd rfl rfl ⟨by omega, by omega⟩ ?_
      refine jv_aload_n rfl rfl rfl (by decide) ?_
      refine jv_getr (w := 98) rfl rfl rfl ⟨by decide, rfl⟩ rfl rfl ?_
      refine jv_iload_n rfl rfl rfl ?_
      refine jv_iaload rfl rfl (by decide) rfl ⟨by omega, by omega⟩ ?_
      refine jv_i2l rfl rfl ?_
      refine jv_lcmp rfl rfl ?_
      refine jv_if_gt rfl rfl rfl (fun c15 => ?_) (fun c15 => ?_)
      · refine jv_iconst rfl rfl ?_
        refine jv_ireturn rfl (Or.inr ⟨rfl, by decide⟩) ?_
        exact k0 (by (try split at *) <;> omega)
      · refine jv_iconst rfl rfl ?_
        refine jv_goto rfl rfl ?_
        refine jv_ireturn rfl (Or.inr ⟨rfl, by decide⟩) ?_
        exact k1 (by (try split at *) <;> omega)
set_option maxRecDepth 10000 in
theorem mo_has {X : jm_X} {d : Nat} {Q : jv_P} {μ : jm_M} {s k : Int} (k1 : jm_and (jm_shr s k) 1 = 1 → Q [.inl 1] μ) (k0 : ¬ (jm_and (jm_shr s k) 1 = 1) → Q [.inl 0] μ) : cV X (d + 1) 136 [.inl s, .inl k] μ Q := by
  refine jv_enter (d := d + 0) jm_p_X10_has [some (.inl s), some (.inl k)] rfl rfl rfl (Nat.le_of_ble_eq_true rfl) rfl rfl ?_
  refine jv_iload_n rfl rfl rfl ?_
  refine jv_iload_n rfl rfl rfl ?_
  refine jv_ishr rfl rfl ?_
  refine jv_iconst rfl rfl ?_
  refine jv_iand rfl rfl ?_
  refine jv_iconst rfl rfl ?_
  refine jv_icmp_ne rfl rfl rfl (fun c6 => ?_) (fun c6 => ?_)
  · refine jv_iconst rfl rfl ?_
    refine jv_ireturn rfl (Or.inr ⟨rfl, by decide⟩) ?_
    exact k0 (by omega)
  · refine jv_iconst rfl rfl ?_
    refine jv_goto rfl rfl ?_
    refine jv_ireturn rfl (Or.inr ⟨rfl, by decide⟩) ?_
    exact k1 (by omega)
set_option maxRecDepth 10000 in
theorem cl_lying {X : jm_X} {d : Nat} {Q : jv_P} {μ : jm_M} {z : Int} (hz : jz_mat z) (hv : ∀ k, 0 ≤ k → k < 6 → 0 ≤ μ (z + 1) k ∧ μ (z + 1) k ≤ 60) (k : Q [.inl (μ (z + 1) 0 + μ (z + 1) 1 + μ (z + 1) 2 + μ (z + 1) 3 + μ (z + 1) 4 + μ (z + 1) 5)] μ) : cV X (d + 1) 52 [.inr (.inr z)] μ Q := by
  have v0 := hv 0 (by decide) (by decide)
  have v1 := hv 1 (by decide) (by decide)
  have v2 := hv 2 (by decide) (by decide)
  have v3 := hv 3 (by decide) (by decide)
  have v4 := hv 4 (by decide) (by decide)
  have v5 := hv 5 (by decide) (by decide)
  refine jv_enter (d := d + 0) jm_p_X5_lying [some (.inr (.inr z)), none, none] rfl rfl rfl (Nat.le_of_ble_eq_true rfl) rfl rfl ?_
  refine jv_iconst rfl rfl ?_
  refine jv_istore_nK (L2 := [some (.inr (.inr z)), some (.inl 0), none]) rfl rfl rfl ?_
  refine jv_iconst rfl rfl ?_
  refine jv_istore_nK (L2 := [some (.inr (.inr z)), some (.inl 0), some (.inl 0)]) rfl rfl rfl ?_
  refine jv_iload_n rfl rfl rfl ?_
  refine jv_bipush rfl rfl ?_
  refine jv_icmp_geF rfl rfl (by decide) ?_
  refine jv_iload_n rfl rfl rfl ?_
  refine jv_aload_n rfl rfl rfl (by have := hz.2.2; omega) ?_
  refine jv_getr (w := (z + 1)) rfl rfl hz.1 ⟨hz.2.2.1, rfl⟩ rfl rfl ?_
  refine jv_iload_n rfl rfl rfl ?_
  refine jv_iaload rfl rfl (by have := hz.2.2; omega) hz.2.1 ⟨by omega, by omega⟩ ?_
  refine jv_iadd rfl rfl ⟨by omega, by omega⟩ ?_
  refine jv_istore_n (fun x => [some (.inr (.inr z)), some (.inl x), some (.inl 0)]) rfl rfl (fun _ => rfl) (fun x1_13 ex1_13 => ?_)
  refine jv_iincK (L2 := [some (.inr (.inr z)), some (.inl x1_13), some (.inl 1)]) rfl rfl rfl (by decide) rfl ?_
  refine jv_goto rfl rfl ?_
  refine jv_iload_n rfl rfl rfl ?_
  refine jv_bipush rfl rfl ?_
  refine jv_icmp_geF rfl rfl (by decide) ?_
  refine jv_iload_n rfl rfl rfl ?_
  refine jv_aload_n rfl rfl rfl (by have := hz.2.2; omega) ?_
  refine jv_getr (w := (z + 1)) rfl rfl hz.1 ⟨hz.2.2.1, rfl⟩ rfl rfl ?_
  refine jv_iload_n rfl rfl rfl ?_
  refine jv_iaload rfl rfl (by have := hz.2.2; omega) hz.2.1 ⟨by omega, by omega⟩ ?_
  refine jv_iadd rfl rfl ⟨by omega, by omega⟩ ?_
  refine jv_istore_n (fun x => [some (.inr (.inr z)), some (.inl x), some (.inl 1)]) rfl rfl (fun _ => rfl) (fun x1_13_1 ex1_13_1 => ?_)
  refine jv_iincK (L2 := [some (.inr (.inr z)), some (.inl x1_13_1), some (.inl 2)]) rfl rfl rfl (by decide) rfl ?_
  refine jv_goto rfl rfl ?_
  refine jv_iload_n rfl rfl rfl ?_
  refine jv_bipush rfl rfl ?_
  refine jv_icmp_geF rfl rfl (by decide) ?_
  refine jv_iload_n rfl rfl rfl ?_
  refine jv_aload_n rfl rfl rfl (by have := hz.2.2; omega) ?_
  refine jv_getr (w := (z + 1)) rfl rfl hz.1 ⟨hz.2.2.1, rfl⟩ rfl rfl ?_
  refine jv_iload_n rfl rfl rfl ?_
  refine jv_iaload rfl rfl (by have := hz.2.2; omega) hz.2.1 ⟨by omega, by omega⟩ ?_
  refine jv_iadd rfl rfl ⟨by omega, by omega⟩ ?_
  refine jv_istore_n (fun x => [some (.inr (.inr z)), some (.inl x), some (.inl 2)]) rfl rfl (fun _ => rfl) (fun x1_13_2 ex1_13_2 => ?_)
  refine jv_iincK (L2 := [some (.inr (.inr z)), some (.inl x1_13_2), some (.inl 3)]) rfl rfl rfl (by decide) rfl ?_
  refine jv_goto rfl rfl ?_
  refine jv_iload_n rfl rfl rfl ?_
  refine jv_bipush rfl rfl ?_
  refine jv_icmp_geF rfl rfl (by decide) ?_
  refine jv_iload_n rfl rfl rfl ?_
  refine jv_aload_n rfl rfl rfl (by have := hz.2.2; omega) ?_
  refine jv_getr (w := (z + 1)) rfl rfl hz.1 ⟨hz.2.2.1, rfl⟩ rfl rfl ?_
  refine jv_iload_n rfl rfl rfl ?_
  refine jv_iaload rfl rfl (by have := hz.2.2; omega) hz.2.1 ⟨by omega, by omega⟩ ?_
  refine jv_iadd rfl rfl ⟨by omega, by omega⟩ ?_
  refine jv_istore_n (fun x => [some (.inr (.inr z)), some (.inl x), some (.inl 3)]) rfl rfl (fun _ => rfl) (fun x1_13_3 ex1_13_3 => ?_)
  refine jv_iincK (L2 := [some (.inr (.inr z)), some (.inl x1_13_3), some (.inl 4)]) rfl rfl rfl (by decide) rfl ?_
  refine jv_goto rfl rfl ?_
  refine jv_iload_n rfl rfl rfl ?_
  refine jv_bipush rfl rfl ?_
  refine jv_icmp_geF rfl rfl (by decide) ?_
  refine jv_iload_n rfl rfl rfl ?_
  refine jv_aload_n rfl rfl rfl (by have := hz.2.2; omega) ?_
  refine jv_getr (w := (z + 1)) rfl rfl hz.1 ⟨hz.2.2.1, rfl⟩ rfl rfl ?_
  refine jv_iload_n rfl rfl rfl ?_
  refine jv_iaload rfl rfl (by have := hz.2.2; omega) hz.2.1 ⟨by omega, by omega⟩ ?_
  refine jv_iadd rfl rfl ⟨by omega, by omega⟩ ?_
  refine jv_istore_n (fun x => [some (.inr (.inr z)), some (.inl x), some (.inl 4)]) rfl rfl (fun _ => rfl) (fun x1_13_4 ex1_13_4 => ?_)
  refine jv_iincK (L2 := [some (.inr (.inr z)), some (.inl x1_13_4), some (.inl 5)]) rfl rfl rfl (by decide) rfl ?_
  refine jv_goto rfl rfl ?_
  refine jv_iload_n rfl rfl rfl ?_
  refine jv_bipush rfl rfl ?_
  refine jv_icmp_geF rfl rfl (by decide) ?_
  refine jv_iload_n rfl rfl rfl ?_
  refine jv_aload_n rfl rfl rfl (by have := hz.2.2; omega) ?_
  refine jv_getr (w := (z + 1)) rfl rfl hz.1 ⟨hz.2.2.1, rfl⟩ rfl rfl ?_
  refine jv_iload_n rfl rfl rfl ?_
  refine jv_iaload rfl rfl (by have := hz.2.2; omega) hz.2.1 ⟨by omega, by omega⟩ ?_
  refine jv_iadd rfl rfl ⟨by omega, by omega⟩ ?_
  refine jv_istore_n (fun x => [some (.inr (.inr z)), some (.inl x), some (.inl 5)]) rfl rfl (fun _ => rfl) (fun x1_13_5 ex1_13_5 => ?_)
  refine jv_iincK (L2 := [some (.inr (.inr z)), some (.inl x1_13_5), some (.inl 6)]) rfl rfl rfl (by decide) rfl ?_
  refine jv_goto rfl rfl ?_
  refine jv_iload_n rfl rfl rfl ?_
  refine jv_bipush rfl rfl ?_
  refine jv_icmp_geT rfl rfl (by decide) ?_
  refine jv_iload_n rfl rfl rfl ?_
  refine jv_ireturn rfl (Or.inl rfl) ?_
  have e : x1_13_5 = (μ (z + 1) 0 + μ (z + 1) 1 + μ (z + 1) 2 + μ (z + 1) 3 + μ (z + 1) 4 + μ (z + 1) 5) := by omega
  rw [e]
  exact k
end
section
set_option maxRecDepth 10000 in
set_option maxHeartbeats 1000000 in
theorem pr_fault {X : jm_X}   : jp X 94 160 [] := by
  intro μ hI
  obtain ⟨⟨hit, hlan⟩, ⟨ht0, ht1, ht2⟩, ⟨hr0, hr1, hr2⟩, ⟨hst, hfa⟩, htown, hidle, himg, hpast⟩ := id hI
  obtain ⟨hwf, hcf, hkd, hmat, hrel, hh01, hhot, hnc⟩ := id htown
  obtain ⟨⟨r0, r1, r2, r3⟩, rm, rz, rc⟩ := id hrel
  obtain ⟨w0, w1, w2, w3, w4, w6, w7, w8⟩ := id hwf
  refine jv_enter (d := 199) jm_p_X9_fault [some (.inr (.inr 0))] rfl rfl rfl (Nat.le_of_ble_eq_true rfl) rfl rfl ?_
  refine jv_aload_n rfl rfl rfl (by decide) ?_
  refine jv_geti rfl rfl rfl ⟨by decide, rfl⟩ (by decide) ?_
  refine jv_ireturn rfl (Or.inl rfl) ?_
  refine ⟨_, rfl, ?_⟩
  refine jv_enter (d := 199) jm_p_X10_fault [some (.inr (.inr 94))] rfl rfl rfl (Nat.le_of_ble_eq_true rfl) rfl rfl ?_
  refine jv_aload_n rfl rfl rfl (by decide) ?_
  refine jv_geti rfl rfl rfl ⟨by decide, rfl⟩ (by decide) ?_
  refine jv_ireturn rfl (Or.inl rfl) ?_
  exact ⟨jv_one hfa.symm, hI⟩
set_option maxRecDepth 10000 in
set_option maxHeartbeats 1000000 in
theorem pr_status {X : jm_X}   : jp X 123 222 [] := by
  intro μ hI
  obtain ⟨⟨hit, hlan⟩, ⟨ht0, ht1, ht2⟩, ⟨hr0, hr1, hr2⟩, ⟨hst, hfa⟩, htown, hidle, himg, hpast⟩ := id hI
  obtain ⟨hwf, hcf, hkd, hmat, hrel, hh01, hhot, hnc⟩ := id htown
  obtain ⟨⟨r0, r1, r2, r3⟩, rm, rz, rc⟩ := id hrel
  obtain ⟨w0, w1, w2, w3, w4, w6, w7, w8⟩ := id hwf
  refine jv_enter (d := 199) jm_p_X9_status [some (.inr (.inr 0))] rfl rfl rfl (Nat.le_of_ble_eq_true rfl) rfl rfl ?_
  refine jv_aload_n rfl rfl rfl (by decide) ?_
  refine jv_geti rfl rfl rfl ⟨by decide, rfl⟩ (by decide) ?_
  refine jv_ireturn rfl (Or.inl rfl) ?_
  refine ⟨_, rfl, ?_⟩
  refine jv_enter (d := 199) jm_p_X10_status [some (.inr (.inr 94))] rfl rfl rfl (Nat.le_of_ble_eq_true rfl) rfl rfl ?_
  refine jv_aload_n rfl rfl rfl (by decide) ?_
  refine jv_geti rfl rfl rfl ⟨by decide, rfl⟩ (by decide) ?_
  refine jv_ireturn rfl (Or.inl rfl) ?_
  exact ⟨jv_one hst.symm, hI⟩
set_option maxRecDepth 10000 in
set_option maxHeartbeats 1000000 in
theorem pr_kind {X : jm_X} {c : Int} (r_c : jm_r c) : jp X 118 206 [.inl c] := by
  intro μ hI
  obtain ⟨⟨hit, hlan⟩, ⟨ht0, ht1, ht2⟩, ⟨hr0, hr1, hr2⟩, ⟨hst, hfa⟩, htown, hidle, himg, hpast⟩ := id hI
  obtain ⟨hwf, hcf, hkd, hmat, hrel, hh01, hhot, hnc⟩ := id htown
  obtain ⟨⟨r0, r1, r2, r3⟩, rm, rz, rc⟩ := id hrel
  obtain ⟨w0, w1, w2, w3, w4, w6, w7, w8⟩ := id hwf
  have hcm : ∀ c, 0 ≤ c → c < 6 → μ 9 c = 18 + c := fun c a b => by have := hmat.2.2 c a b; exact this
  have hrc : ∀ c, 0 ≤ c → c < μ 95 1 → μ (18 + c) 0 = μ 95 (32 + c) ∧ μ (18 + c) 1 = μ 95 (38 + c) ∧ μ (18 + c) 2 = μ 95 (44 + c) ∧ μ (18 + c) 3 = μ 95 (50 + c) ∧ μ (18 + c) 4 = μ 95 (56 + c) := fun c a b => rc c a b
  refine jv_enter (d := 199) jm_p_X9_kind [some (.inr (.inr 0)), some (.inl c)] rfl rfl rfl (Nat.le_of_ble_eq_true rfl) rfl rfl ?_
  refine jv_aload_n rfl rfl rfl (by decide) ?_
  refine jv_iload_n rfl rfl rfl ?_
  refine jv_callV1 rfl rfl rfl rfl ⟨by decide, rfl⟩ (Nat.le_of_ble_eq_true rfl) (cl_noComer (fun b2 => ?_) (fun b2 => ?_))
  · show jV _ _ jm_p_X9_kind _ 3 [some (.inr (.inr 0)), some (.inl c)] [.inl 1] μ
    refine jv_if_eqF rfl rfl (by decide) ?_
    refine jv_ldc rfl rfl ?_
    refine jv_goto rfl rfl ?_
    refine jv_ireturn rfl (Or.inl rfl) ?_
    refine ⟨_, rfl, ?_⟩
    refine jv_enter (d := 199) jm_p_X10_kind [some (.inr (.inr 94)), some (.inl c)] rfl rfl rfl (Nat.le_of_ble_eq_true rfl) rfl rfl ?_
    refine jv_aload_n rfl rfl rfl (by decide) ?_
    refine jv_iload_n rfl rfl rfl ?_
    refine jv_callV1 rfl rfl rfl rfl ⟨by decide, rfl⟩ (Nat.le_of_ble_eq_true rfl) (mo_isComer (by omega) (fun b2 => ?_) (fun b2 => ?_))
    · show jV _ _ jm_p_X10_kind _ 3 [some (.inr (.inr 94)), some (.inl c)] [.inl 1] μ
      refine jv_if_eqF rfl rfl (by decide) ?_
      refine jv_aload_n rfl rfl rfl (by decide) ?_
      refine jv_getr (w := 95) rfl rfl rfl ⟨by decide, rfl⟩ rfl rfl ?_
      refine jv_bipush rfl rfl ?_
      refine jv_iload_n rfl rfl rfl ?_
      refine jv_iadd rfl rfl ⟨by omega, by omega⟩ ?_
      refine jv_iaload rfl rfl (by decide) rfl ⟨by omega, by omega⟩ ?_
      refine jv_goto rfl rfl ?_
      refine jv_ireturn rfl (Or.inl rfl) ?_
      exact ⟨jv_one (by have := hrc c; omega), hI⟩
    · show jV _ _ jm_p_X10_kind _ 3 [some (.inr (.inr 94)), some (.inl c)] [.inl 0] μ
      refine jv_if_eqT rfl rfl (by decide) ?_
      refine jv_ldc rfl rfl ?_
      refine jv_ireturn rfl (Or.inl rfl) ?_
      exact ⟨jv_one (by have := hrc c; omega), hI⟩
  · show jV _ _ jm_p_X9_kind _ 3 [some (.inr (.inr 0)), some (.inl c)] [.inl 0] μ
    refine jv_if_eqT rfl rfl (by decide) ?_
    refine jv_aload_n rfl rfl rfl (by decide) ?_
    refine jv_getr (w := 7) rfl rfl rfl ⟨by decide, rfl⟩ rfl rfl ?_
    refine jv_getr (w := 9) rfl rfl rfl ⟨by decide, rfl⟩ rfl rfl ?_
    refine jv_iload_n rfl rfl rfl ?_
    refine jv_aaloadv (v := 18 + c) rfl rfl rfl ⟨by decide, by decide, by decide⟩ ⟨by omega, by omega⟩ (hcm c (by omega) (by omega)) ?_
    refine jv_geti rfl rfl (jz_com7 (by omega) (by omega)).1 ⟨by omega, rfl⟩ (by decide) ?_
    refine jv_ireturn rfl (Or.inl rfl) ?_
    refine ⟨_, rfl, ?_⟩
    refine jv_enter (d := 199) jm_p_X10_kind [some (.inr (.inr 94)), some (.inl c)] rfl rfl rfl (Nat.le_of_ble_eq_true rfl) rfl rfl ?_
    refine jv_aload_n rfl rfl rfl (by decide) ?_
    refine jv_iload_n rfl rfl rfl ?_
    refine jv_callV1 rfl rfl rfl rfl ⟨by decide, rfl⟩ (Nat.le_of_ble_eq_true rfl) (mo_isComer (by omega) (fun b2 => ?_) (fun b2 => ?_))
    · show jV _ _ jm_p_X10_kind _ 3 [some (.inr (.inr 94)), some (.inl c)] [.inl 1] μ
      refine jv_if_eqF rfl rfl (by decide) ?_
      refine jv_aload_n rfl rfl rfl (by decide) ?_
      refine jv_getr (w := 95) rfl rfl rfl ⟨by decide, rfl⟩ rfl rfl ?_
      refine jv_bipush rfl rfl ?_
      refine jv_iload_n rfl rfl rfl ?_
      refine jv_iadd rfl rfl ⟨by omega, by omega⟩ ?_
      refine jv_iaload rfl rfl (by decide) rfl ⟨by omega, by omega⟩ ?_
      refine jv_goto rfl rfl ?_
      refine jv_ireturn rfl (Or.inl rfl) ?_
      exact ⟨jv_one (by have := hrc c; omega), hI⟩
    · show jV _ _ jm_p_X10_kind _ 3 [some (.inr (.inr 94)), some (.inl c)] [.inl 0] μ
      refine jv_if_eqT rfl rfl (by decide) ?_
      refine jv_ldc rfl rfl ?_
      refine jv_ireturn rfl (Or.inl rfl) ?_
      exact ⟨jv_one (by have := hrc c; omega), hI⟩
set_option maxRecDepth 10000 in
set_option maxHeartbeats 1000000 in
theorem pr_comer {X : jm_X} {c : Int} {w : Int} (r_c : jm_r c) (r_w : jm_r w) : jp X 100 177 [.inl c, .inl w] := by
  intro μ hI
  obtain ⟨⟨hit, hlan⟩, ⟨ht0, ht1, ht2⟩, ⟨hr0, hr1, hr2⟩, ⟨hst, hfa⟩, htown, hidle, himg, hpast⟩ := id hI
  obtain ⟨hwf, hcf, hkd, hmat, hrel, hh01, hhot, hnc⟩ := id htown
  obtain ⟨⟨r0, r1, r2, r3⟩, rm, rz, rc⟩ := id hrel
  obtain ⟨w0, w1, w2, w3, w4, w6, w7, w8⟩ := id hwf
  have hcm : ∀ c, 0 ≤ c → c < 6 → μ 9 c = 18 + c := fun c a b => by have := hmat.2.2 c a b; exact this
  have hrc : ∀ c, 0 ≤ c → c < μ 95 1 → μ (18 + c) 0 = μ 95 (32 + c) ∧ μ (18 + c) 1 = μ 95 (38 + c) ∧ μ (18 + c) 2 = μ 95 (44 + c) ∧ μ (18 + c) 3 = μ 95 (50 + c) ∧ μ (18 + c) 4 = μ 95 (56 + c) := fun c a b => rc c a b
  refine jv_enter (d := 199) jm_p_X9_comer [some (.inr (.inr 0)), some (.inl c), some (.inl w), none] rfl rfl rfl (Nat.le_of_ble_eq_true rfl) rfl rfl ?_
  refine jv_aload_n rfl rfl rfl (by decide) ?_
  refine jv_iload_n rfl rfl rfl ?_
  refine jv_callV1 rfl rfl rfl rfl ⟨by decide, rfl⟩ (Nat.le_of_ble_eq_true rfl) (cl_noComer (fun b2 => ?_) (fun b2 => ?_))
  · show jV _ _ jm_p_X9_comer _ 3 [some (.inr (.inr 0)), some (.inl c), some (.inl w), none] [.inl 1] μ
    refine jv_if_eqF rfl rfl (by decide) ?_
    refine jv_ldc rfl rfl ?_
    refine jv_ireturn rfl (Or.inl rfl) ?_
    refine ⟨_, rfl, ?_⟩
    refine jv_enter (d := 199) jm_p_X10_comer [some (.inr (.inr 94)), some (.inl c), some (.inl w)] rfl rfl rfl (Nat.le_of_ble_eq_true rfl) rfl rfl ?_
    refine jv_aload_n rfl rfl rfl (by decide) ?_
    refine jv_iload_n rfl rfl rfl ?_
    refine jv_callV1 rfl rfl rfl rfl ⟨by decide, rfl⟩ (Nat.le_of_ble_eq_true rfl) (mo_isComer (by omega) (fun b2 => ?_) (fun b2 => ?_))
    · show jV _ _ jm_p_X10_comer _ 3 [some (.inr (.inr 94)), some (.inl c), some (.inl w)] [.inl 1] μ
      refine jv_if_neT rfl rfl (by decide) ?_
      refine jv_iload_n rfl rfl rfl ?_
      refine jv_tsw rfl (And.intro (fun s7 => ?_) (fun ns7_3 => (And.intro (fun s7 => ?_) (fun ns7_2 => (And.intro (fun s7 => ?_) (fun ns7_1 => (And.intro (fun s7 => ?_) (fun ns7 => (jm_sw_1 ?_)))))))))
      · refine jv_aload_n rfl rfl rfl (by decide) ?_
        refine jv_getr (w := 95) rfl rfl rfl ⟨by decide, rfl⟩ rfl rfl ?_
        refine jv_bipush rfl rfl ?_
        refine jv_iload_n rfl rfl rfl ?_
        refine jv_iadd rfl rfl ⟨by omega, by omega⟩ ?_
        refine jv_iaload rfl rfl (by decide) rfl ⟨by omega, by omega⟩ ?_
        refine jv_ireturn rfl (Or.inl rfl) ?_
        exact ⟨jv_one (by have := hrc c; omega), hI⟩
      · refine jv_aload_n rfl rfl rfl (by decide) ?_
        refine jv_getr (w := 95) rfl rfl rfl ⟨by decide, rfl⟩ rfl rfl ?_
        refine jv_bipush rfl rfl ?_
        refine jv_iload_n rfl rfl rfl ?_
        refine jv_iadd rfl rfl ⟨by omega, by omega⟩ ?_
        refine jv_iaload rfl rfl (by decide) rfl ⟨by omega, by omega⟩ ?_
        refine jv_ireturn rfl (Or.inl rfl) ?_
        exact ⟨jv_one (by have := hrc c; omega), hI⟩
      · refine jv_aload_n rfl rfl rfl (by decide) ?_
        refine jv_getr (w := 95) rfl rfl rfl ⟨by decide, rfl⟩ rfl rfl ?_
        refine jv_bipush rfl rfl ?_
        refine jv_iload_n rfl rfl rfl ?_
        refine jv_iadd rfl rfl ⟨by omega, by omega⟩ ?_
        refine jv_iaload rfl rfl (by decide) rfl ⟨by omega, by omega⟩ ?_
        refine jv_ireturn rfl (Or.inl rfl) ?_
        exact ⟨jv_one (by have := hrc c; omega), hI⟩
      · refine jv_aload_n rfl rfl rfl (by decide) ?_
        refine jv_getr (w := 95) rfl rfl rfl ⟨by decide, rfl⟩ rfl rfl ?_
        refine jv_bipush rfl rfl ?_
        refine jv_iload_n rfl rfl rfl ?_
        refine jv_iadd rfl rfl ⟨by omega, by omega⟩ ?_
        refine jv_iaload rfl rfl (by decide) rfl ⟨by omega, by omega⟩ ?_
        refine jv_ireturn rfl (Or.inl rfl) ?_
        exact ⟨jv_one (by have := hrc c; omega), hI⟩
      · show jV _ _ jm_p_X10_comer _ 36 [some (.inr (.inr 94)), some (.inl c), some (.inl w)] [] μ
        refine jv_ldc rfl rfl ?_
        refine jv_ireturn rfl (Or.inl rfl) ?_
        exact ⟨jv_one (by have := hrc c; omega), hI⟩
    · show jV _ _ jm_p_X10_comer _ 3 [some (.inr (.inr 94)), some (.inl c), some (.inl w)] [.inl 0] μ
      refine jv_if_neF rfl rfl (by decide) ?_
      refine jv_ldc rfl rfl ?_
      refine jv_ireturn rfl (Or.inl rfl) ?_
      exact ⟨jv_one (by have := hrc c; omega), hI⟩
  · show jV _ _ jm_p_X9_comer _ 3 [some (.inr (.inr 0)), some (.inl c), some (.inl w), none] [.inl 0] μ
    refine jv_if_eqT rfl rfl (by decide) ?_
    refine jv_aload_n rfl rfl rfl (by decide) ?_
    refine jv_getr (w := 7) rfl rfl rfl ⟨by decide, rfl⟩ rfl rfl ?_
    refine jv_getr (w := 9) rfl rfl rfl ⟨by decide, rfl⟩ rfl rfl ?_
    refine jv_iload_n rfl rfl rfl ?_
    refine jv_aaloadv (v := 18 + c) rfl rfl rfl ⟨by decide, by decide, by decide⟩ ⟨by omega, by omega⟩ (hcm c (by omega) (by omega)) ?_
    refine jv_astore_n (L2 := [some (.inr (.inr 0)), some (.inl c), some (.inl w), some (.inr (.inr (18 + c)))]) rfl rfl (by omega) rfl ?_
    refine jv_iload_n rfl rfl rfl ?_
    refine jv_tsw rfl (And.intro (fun s13 => ?_) (fun ns13_3 => (And.intro (fun s13 => ?_) (fun ns13_2 => (And.intro (fun s13 => ?_) (fun ns13_1 => (And.intro (fun s13 => ?_) (fun ns13 => (jm_sw_1 ?_)))))))))
    · refine jv_aload_n rfl rfl rfl (by omega) ?_
      refine jv_geti rfl rfl (jz_com7 (by omega) (by omega)).1 ⟨by omega, rfl⟩ (by decide) ?_
      refine jv_ireturn rfl (Or.inl rfl) ?_
      refine ⟨_, rfl, ?_⟩
      refine jv_enter (d := 199) jm_p_X10_comer [some (.inr (.inr 94)), some (.inl c), some (.inl w)] rfl rfl rfl (Nat.le_of_ble_eq_true rfl) rfl rfl ?_
      refine jv_aload_n rfl rfl rfl (by decide) ?_
      refine jv_iload_n rfl rfl rfl ?_
      refine jv_callV1 rfl rfl rfl rfl ⟨by decide, rfl⟩ (Nat.le_of_ble_eq_true rfl) (mo_isComer (by omega) (fun b2 => ?_) (fun b2 => ?_))
      · show jV _ _ jm_p_X10_comer _ 3 [some (.inr (.inr 94)), some (.inl c), some (.inl w)] [.inl 1] μ
        refine jv_if_neT rfl rfl (by decide) ?_
        refine jv_iload_n rfl rfl rfl ?_
        refine jv_tsw rfl (And.intro (fun s7 => ?_) (fun ns7_3 => (And.intro (fun s7 => ?_) (fun ns7_2 => (And.intro (fun s7 => ?_) (fun ns7_1 => (And.intro (fun s7 => ?_) (fun ns7 => (jm_sw_1 ?_)))))))))
        · refine jv_aload_n rfl rfl rfl (by decide) ?_
          refine jv_getr (w := 95) rfl rfl rfl ⟨by decide, rfl⟩ rfl rfl ?_
          refine jv_bipush rfl rfl ?_
          refine jv_iload_n rfl rfl rfl ?_
          refine jv_iadd rfl rfl ⟨by omega, by omega⟩ ?_
          refine jv_iaload rfl rfl (by decide) rfl ⟨by omega, by omega⟩ ?_
          refine jv_ireturn rfl (Or.inl rfl) ?_
          exact ⟨jv_one (by have := hrc c; omega), hI⟩
        · refine jv_aload_n rfl rfl rfl (by decide) ?_
          refine jv_getr (w := 95) rfl rfl rfl ⟨by decide, rfl⟩ rfl rfl ?_
          refine jv_bipush rfl rfl ?_
          refine jv_iload_n rfl rfl rfl ?_
          refine jv_iadd rfl rfl ⟨by omega, by omega⟩ ?_
          refine jv_iaload rfl rfl (by decide) rfl ⟨by omega, by omega⟩ ?_
          refine jv_ireturn rfl (Or.inl rfl) ?_
          exact ⟨jv_one (by have := hrc c; omega), hI⟩
        · refine jv_aload_n rfl rfl rfl (by decide) ?_
          refine jv_getr (w := 95) rfl rfl rfl ⟨by decide, rfl⟩ rfl rfl ?_
          refine jv_bipush rfl rfl ?_
          refine jv_iload_n rfl rfl rfl ?_
          refine jv_iadd rfl rfl ⟨by omega, by omega⟩ ?_
          refine jv_iaload rfl rfl (by decide) rfl ⟨by omega, by omega⟩ ?_
          refine jv_ireturn rfl (Or.inl rfl) ?_
          exact ⟨jv_one (by have := hrc c; omega), hI⟩
        · refine jv_aload_n rfl rfl rfl (by decide) ?_
          refine jv_getr (w := 95) rfl rfl rfl ⟨by decide, rfl⟩ rfl rfl ?_
          refine jv_bipush rfl rfl ?_
          refine jv_iload_n rfl rfl rfl ?_
          refine jv_iadd rfl rfl ⟨by omega, by omega⟩ ?_
          refine jv_iaload rfl rfl (by decide) rfl ⟨by omega, by omega⟩ ?_
          refine jv_ireturn rfl (Or.inl rfl) ?_
          exact ⟨jv_one (by have := hrc c; omega), hI⟩
        · show jV _ _ jm_p_X10_comer _ 36 [some (.inr (.inr 94)), some (.inl c), some (.inl w)] [] μ
          refine jv_ldc rfl rfl ?_
          refine jv_ireturn rfl (Or.inl rfl) ?_
          exact ⟨jv_one (by have := hrc c; omega), hI⟩
      · show jV _ _ jm_p_X10_comer _ 3 [some (.inr (.inr 94)), some (.inl c), some (.inl w)] [.inl 0] μ
        refine jv_if_neF rfl rfl (by decide) ?_
        refine jv_ldc rfl rfl ?_
        refine jv_ireturn rfl (Or.inl rfl) ?_
        exact ⟨jv_one (by have := hrc c; omega), hI⟩
    · refine jv_aload_n rfl rfl rfl (by omega) ?_
      refine jv_geti rfl rfl (jz_com7 (by omega) (by omega)).1 ⟨by omega, rfl⟩ (by decide) ?_
      refine jv_ireturn rfl (Or.inl rfl) ?_
      refine ⟨_, rfl, ?_⟩
      refine jv_enter (d := 199) jm_p_X10_comer [some (.inr (.inr 94)), some (.inl c), some (.inl w)] rfl rfl rfl (Nat.le_of_ble_eq_true rfl) rfl rfl ?_
      refine jv_aload_n rfl rfl rfl (by decide) ?_
      refine jv_iload_n rfl rfl rfl ?_
      refine jv_callV1 rfl rfl rfl rfl ⟨by decide, rfl⟩ (Nat.le_of_ble_eq_true rfl) (mo_isComer (by omega) (fun b2 => ?_) (fun b2 => ?_))
      · show jV _ _ jm_p_X10_comer _ 3 [some (.inr (.inr 94)), some (.inl c), some (.inl w)] [.inl 1] μ
        refine jv_if_neT rfl rfl (by decide) ?_
        refine jv_iload_n rfl rfl rfl ?_
        refine jv_tsw rfl (And.intro (fun s7 => ?_) (fun ns7_3 => (And.intro (fun s7 => ?_) (fun ns7_2 => (And.intro (fun s7 => ?_) (fun ns7_1 => (And.intro (fun s7 => ?_) (fun ns7 => (jm_sw_1 ?_)))))))))
        · refine jv_aload_n rfl rfl rfl (by decide) ?_
          refine jv_getr (w := 95) rfl rfl rfl ⟨by decide, rfl⟩ rfl rfl ?_
          refine jv_bipush rfl rfl ?_
          refine jv_iload_n rfl rfl rfl ?_
          refine jv_iadd rfl rfl ⟨by omega, by omega⟩ ?_
          refine jv_iaload rfl rfl (by decide) rfl ⟨by omega, by omega⟩ ?_
          refine jv_ireturn rfl (Or.inl rfl) ?_
          exact ⟨jv_one (by have := hrc c; omega), hI⟩
        · refine jv_aload_n rfl rfl rfl (by decide) ?_
          refine jv_getr (w := 95) rfl rfl rfl ⟨by decide, rfl⟩ rfl rfl ?_
          refine jv_bipush rfl rfl ?_
          refine jv_iload_n rfl rfl rfl ?_
          refine jv_iadd rfl rfl ⟨by omega, by omega⟩ ?_
          refine jv_iaload rfl rfl (by decide) rfl ⟨by omega, by omega⟩ ?_
          refine jv_ireturn rfl (Or.inl rfl) ?_
          exact ⟨jv_one (by have := hrc c; omega), hI⟩
        · refine jv_aload_n rfl rfl rfl (by decide) ?_
          refine jv_getr (w := 95) rfl rfl rfl ⟨by decide, rfl⟩ rfl rfl ?_
          refine jv_bipush rfl rfl ?_
          refine jv_iload_n rfl rfl rfl ?_
          refine jv_iadd rfl rfl ⟨by omega, by omega⟩ ?_
          refine jv_iaload rfl rfl (by decide) rfl ⟨by omega, by omega⟩ ?_
          refine jv_ireturn rfl (Or.inl rfl) ?_
          exact ⟨jv_one (by have := hrc c; omega), hI⟩
        · refine jv_aload_n rfl rfl rfl (by decide) ?_
          refine jv_getr (w := 95) rfl rfl rfl ⟨by decide, rfl⟩ rfl rfl ?_
          refine jv_bipush rfl rfl ?_
          refine jv_iload_n rfl rfl rfl ?_
          refine jv_iadd rfl rfl ⟨by omega, by omega⟩ ?_
          refine jv_iaload rfl rfl (by decide) rfl ⟨by omega, by omega⟩ ?_
          refine jv_ireturn rfl (Or.inl rfl) ?_
          exact ⟨jv_one (by have := hrc c; omega), hI⟩
        · show jV _ _ jm_p_X10_comer _ 36 [some (.inr (.inr 94)), some (.inl c), some (.inl w)] [] μ
          refine jv_ldc rfl rfl ?_
          refine jv_ireturn rfl (Or.inl rfl) ?_
          exact ⟨jv_one (by have := hrc c; omega), hI⟩
      · show jV _ _ jm_p_X10_comer _ 3 [some (.inr (.inr 94)), some (.inl c), some (.inl w)] [.inl 0] μ
        refine jv_if_neF rfl rfl (by decide) ?_
        refine jv_ldc rfl rfl ?_
        refine jv_ireturn rfl (Or.inl rfl) ?_
        exact ⟨jv_one (by have := hrc c; omega), hI⟩
    · refine jv_aload_n rfl rfl rfl (by omega) ?_
      refine jv_geti rfl rfl (jz_com7 (by omega) (by omega)).1 ⟨by omega, rfl⟩ (by decide) ?_
      refine jv_ireturn rfl (Or.inl rfl) ?_
      refine ⟨_, rfl, ?_⟩
      refine jv_enter (d := 199) jm_p_X10_comer [some (.inr (.inr 94)), some (.inl c), some (.inl w)] rfl rfl rfl (Nat.le_of_ble_eq_true rfl) rfl rfl ?_
      refine jv_aload_n rfl rfl rfl (by decide) ?_
      refine jv_iload_n rfl rfl rfl ?_
      refine jv_callV1 rfl rfl rfl rfl ⟨by decide, rfl⟩ (Nat.le_of_ble_eq_true rfl) (mo_isComer (by omega) (fun b2 => ?_) (fun b2 => ?_))
      · show jV _ _ jm_p_X10_comer _ 3 [some (.inr (.inr 94)), some (.inl c), some (.inl w)] [.inl 1] μ
        refine jv_if_neT rfl rfl (by decide) ?_
        refine jv_iload_n rfl rfl rfl ?_
        refine jv_tsw rfl (And.intro (fun s7 => ?_) (fun ns7_3 => (And.intro (fun s7 => ?_) (fun ns7_2 => (And.intro (fun s7 => ?_) (fun ns7_1 => (And.intro (fun s7 => ?_) (fun ns7 => (jm_sw_1 ?_)))))))))
        · refine jv_aload_n rfl rfl rfl (by decide) ?_
          refine jv_getr (w := 95) rfl rfl rfl ⟨by decide, rfl⟩ rfl rfl ?_
          refine jv_bipush rfl rfl ?_
          refine jv_iload_n rfl rfl rfl ?_
          refine jv_iadd rfl rfl ⟨by omega, by omega⟩ ?_
          refine jv_iaload rfl rfl (by decide) rfl ⟨by omega, by omega⟩ ?_
          refine jv_ireturn rfl (Or.inl rfl) ?_
          exact ⟨jv_one (by have := hrc c; omega), hI⟩
        · refine jv_aload_n rfl rfl rfl (by decide) ?_
          refine jv_getr (w := 95) rfl rfl rfl ⟨by decide, rfl⟩ rfl rfl ?_
          refine jv_bipush rfl rfl ?_
          refine jv_iload_n rfl rfl rfl ?_
          refine jv_iadd rfl rfl ⟨by omega, by omega⟩ ?_
          refine jv_iaload rfl rfl (by decide) rfl ⟨by omega, by omega⟩ ?_
          refine jv_ireturn rfl (Or.inl rfl) ?_
          exact ⟨jv_one (by have := hrc c; omega), hI⟩
        · refine jv_aload_n rfl rfl rfl (by decide) ?_
          refine jv_getr (w := 95) rfl rfl rfl ⟨by decide, rfl⟩ rfl rfl ?_
          refine jv_bipush rfl rfl ?_
          refine jv_iload_n rfl rfl rfl ?_
          refine jv_iadd rfl rfl ⟨by omega, by omega⟩ ?_
          refine jv_iaload rfl rfl (by decide) rfl ⟨by omega, by omega⟩ ?_
          refine jv_ireturn rfl (Or.inl rfl) ?_
          exact ⟨jv_one (by have := hrc c; omega), hI⟩
        · refine jv_aload_n rfl rfl rfl (by decide) ?_
          refine jv_getr (w := 95) rfl rfl rfl ⟨by decide, rfl⟩ rfl rfl ?_
          refine jv_bipush rfl rfl ?_
          refine jv_iload_n rfl rfl rfl ?_
          refine jv_iadd rfl rfl ⟨by omega, by omega⟩ ?_
          refine jv_iaload rfl rfl (by decide) rfl ⟨by omega, by omega⟩ ?_
          refine jv_ireturn rfl (Or.inl rfl) ?_
          exact ⟨jv_one (by have := hrc c; omega), hI⟩
        · show jV _ _ jm_p_X10_comer _ 36 [some (.inr (.inr 94)), some (.inl c), some (.inl w)] [] μ
          refine jv_ldc rfl rfl ?_
          refine jv_ireturn rfl (Or.inl rfl) ?_
          exact ⟨jv_one (by have := hrc c; omega), hI⟩
      · show jV _ _ jm_p_X10_comer _ 3 [some (.inr (.inr 94)), some (.inl c), some (.inl w)] [.inl 0] μ
        refine jv_if_neF rfl rfl (by decide) ?_
        refine jv_ldc rfl rfl ?_
        refine jv_ireturn rfl (Or.inl rfl) ?_
        exact ⟨jv_one (by have := hrc c; omega), hI⟩
    · refine jv_aload_n rfl rfl rfl (by omega) ?_
      refine jv_geti rfl rfl (jz_com7 (by omega) (by omega)).1 ⟨by omega, rfl⟩ (by decide) ?_
      refine jv_ireturn rfl (Or.inl rfl) ?_
      refine ⟨_, rfl, ?_⟩
      refine jv_enter (d := 199) jm_p_X10_comer [some (.inr (.inr 94)), some (.inl c), some (.inl w)] rfl rfl rfl (Nat.le_of_ble_eq_true rfl) rfl rfl ?_
      refine jv_aload_n rfl rfl rfl (by decide) ?_
      refine jv_iload_n rfl rfl rfl ?_
      refine jv_callV1 rfl rfl rfl rfl ⟨by decide, rfl⟩ (Nat.le_of_ble_eq_true rfl) (mo_isComer (by omega) (fun b2 => ?_) (fun b2 => ?_))
      · show jV _ _ jm_p_X10_comer _ 3 [some (.inr (.inr 94)), some (.inl c), some (.inl w)] [.inl 1] μ
        refine jv_if_neT rfl rfl (by decide) ?_
        refine jv_iload_n rfl rfl rfl ?_
        refine jv_tsw rfl (And.intro (fun s7 => ?_) (fun ns7_3 => (And.intro (fun s7 => ?_) (fun ns7_2 => (And.intro (fun s7 => ?_) (fun ns7_1 => (And.intro (fun s7 => ?_) (fun ns7 => (jm_sw_1 ?_)))))))))
        · refine jv_aload_n rfl rfl rfl (by decide) ?_
          refine jv_getr (w := 95) rfl rfl rfl ⟨by decide, rfl⟩ rfl rfl ?_
          refine jv_bipush rfl rfl ?_
          refine jv_iload_n rfl rfl rfl ?_
          refine jv_iadd rfl rfl ⟨by omega, by omega⟩ ?_
          refine jv_iaload rfl rfl (by decide) rfl ⟨by omega, by omega⟩ ?_
          refine jv_ireturn rfl (Or.inl rfl) ?_
          exact ⟨jv_one (by have := hrc c; omega), hI⟩
        · refine jv_aload_n rfl rfl rfl (by decide) ?_
          refine jv_getr (w := 95) rfl rfl rfl ⟨by decide, rfl⟩ rfl rfl ?_
          refine jv_bipush rfl rfl ?_
          refine jv_iload_n rfl rfl rfl ?_
          refine jv_iadd rfl rfl ⟨by omega, by omega⟩ ?_
          refine jv_iaload rfl rfl (by decide) rfl ⟨by omega, by omega⟩ ?_
          refine jv_ireturn rfl (Or.inl rfl) ?_
          exact ⟨jv_one (by have := hrc c; omega), hI⟩
        · refine jv_aload_n rfl rfl rfl (by decide) ?_
          refine jv_getr (w := 95) rfl rfl rfl ⟨by decide, rfl⟩ rfl rfl ?_
          refine jv_bipush rfl rfl ?_
          refine jv_iload_n rfl rfl rfl ?_
          refine jv_iadd rfl rfl ⟨by omega, by omega⟩ ?_
          refine jv_iaload rfl rfl (by decide) rfl ⟨by omega, by omega⟩ ?_
          refine jv_ireturn rfl (Or.inl rfl) ?_
          exact ⟨jv_one (by have := hrc c; omega), hI⟩
        · refine jv_aload_n rfl rfl rfl (by decide) ?_
          refine jv_getr (w := 95) rfl rfl rfl ⟨by decide, rfl⟩ rfl rfl ?_
          refine jv_bipush rfl rfl ?_
          refine jv_iload_n rfl rfl rfl ?_
          refine jv_iadd rfl rfl ⟨by omega, by omega⟩ ?_
          refine jv_iaload rfl rfl (by decide) rfl ⟨by omega, by omega⟩ ?_
          refine jv_ireturn rfl (Or.inl rfl) ?_
          exact ⟨jv_one (by have := hrc c; omega), hI⟩
        · show jV _ _ jm_p_X10_comer _ 36 [some (.inr (.inr 94)), some (.inl c), some (.inl w)] [] μ
          refine jv_ldc rfl rfl ?_
          refine jv_ireturn rfl (Or.inl rfl) ?_
          exact ⟨jv_one (by have := hrc c; omega), hI⟩
      · show jV _ _ jm_p_X10_comer _ 3 [some (.inr (.inr 94)), some (.inl c), some (.inl w)] [.inl 0] μ
        refine jv_if_neF rfl rfl (by decide) ?_
        refine jv_ldc rfl rfl ?_
        refine jv_ireturn rfl (Or.inl rfl) ?_
        exact ⟨jv_one (by have := hrc c; omega), hI⟩
    · show jV _ _ jm_p_X9_comer _ 26 [some (.inr (.inr 0)), some (.inl c), some (.inl w), some (.inr (.inr (18 + c)))] [] μ
      refine jv_ldc rfl rfl ?_
      refine jv_ireturn rfl (Or.inl rfl) ?_
      refine ⟨_, rfl, ?_⟩
      refine jv_enter (d := 199) jm_p_X10_comer [some (.inr (.inr 94)), some (.inl c), some (.inl w)] rfl rfl rfl (Nat.le_of_ble_eq_true rfl) rfl rfl ?_
      refine jv_aload_n rfl rfl rfl (by decide) ?_
      refine jv_iload_n rfl rfl rfl ?_
      refine jv_callV1 rfl rfl rfl rfl ⟨by decide, rfl⟩ (Nat.le_of_ble_eq_true rfl) (mo_isComer (by omega) (fun b2 => ?_) (fun b2 => ?_))
      · show jV _ _ jm_p_X10_comer _ 3 [some (.inr (.inr 94)), some (.inl c), some (.inl w)] [.inl 1] μ
        refine jv_if_neT rfl rfl (by decide) ?_
        refine jv_iload_n rfl rfl rfl ?_
        refine jv_tsw rfl (And.intro (fun s7 => ?_) (fun ns7_3 => (And.intro (fun s7 => ?_) (fun ns7_2 => (And.intro (fun s7 => ?_) (fun ns7_1 => (And.intro (fun s7 => ?_) (fun ns7 => (jm_sw_1 ?_)))))))))
        · refine jv_aload_n rfl rfl rfl (by decide) ?_
          refine jv_getr (w := 95) rfl rfl rfl ⟨by decide, rfl⟩ rfl rfl ?_
          refine jv_bipush rfl rfl ?_
          refine jv_iload_n rfl rfl rfl ?_
          refine jv_iadd rfl rfl ⟨by omega, by omega⟩ ?_
          refine jv_iaload rfl rfl (by decide) rfl ⟨by omega, by omega⟩ ?_
          refine jv_ireturn rfl (Or.inl rfl) ?_
          exact ⟨jv_one (by have := hrc c; omega), hI⟩
        · refine jv_aload_n rfl rfl rfl (by decide) ?_
          refine jv_getr (w := 95) rfl rfl rfl ⟨by decide, rfl⟩ rfl rfl ?_
          refine jv_bipush rfl rfl ?_
          refine jv_iload_n rfl rfl rfl ?_
          refine jv_iadd rfl rfl ⟨by omega, by omega⟩ ?_
          refine jv_iaload rfl rfl (by decide) rfl ⟨by omega, by omega⟩ ?_
          refine jv_ireturn rfl (Or.inl rfl) ?_
          exact ⟨jv_one (by have := hrc c; omega), hI⟩
        · refine jv_aload_n rfl rfl rfl (by decide) ?_
          refine jv_getr (w := 95) rfl rfl rfl ⟨by decide, rfl⟩ rfl rfl ?_
          refine jv_bipush rfl rfl ?_
          refine jv_iload_n rfl rfl rfl ?_
          refine jv_iadd rfl rfl ⟨by omega, by omega⟩ ?_
          refine jv_iaload rfl rfl (by decide) rfl ⟨by omega, by omega⟩ ?_
          refine jv_ireturn rfl (Or.inl rfl) ?_
          exact ⟨jv_one (by have := hrc c; omega), hI⟩
        · refine jv_aload_n rfl rfl rfl (by decide) ?_
          refine jv_getr (w := 95) rfl rfl rfl ⟨by decide, rfl⟩ rfl rfl ?_
          refine jv_bipush rfl rfl ?_
          refine jv_iload_n rfl rfl rfl ?_
          refine jv_iadd rfl rfl ⟨by omega, by omega⟩ ?_
          refine jv_iaload rfl rfl (by decide) rfl ⟨by omega, by omega⟩ ?_
          refine jv_ireturn rfl (Or.inl rfl) ?_
          exact ⟨jv_one (by have := hrc c; omega), hI⟩
        · show jV _ _ jm_p_X10_comer _ 36 [some (.inr (.inr 94)), some (.inl c), some (.inl w)] [] μ
          refine jv_ldc rfl rfl ?_
          refine jv_ireturn rfl (Or.inl rfl) ?_
          exact ⟨jv_one (by have := hrc c; omega), hI⟩
      · show jV _ _ jm_p_X10_comer _ 3 [some (.inr (.inr 94)), some (.inl c), some (.inl w)] [.inl 0] μ
        refine jv_if_neF rfl rfl (by decide) ?_
        refine jv_ldc rfl rfl ?_
        refine jv_ireturn rfl (Or.inl rfl) ?_
        exact ⟨jv_one (by have := hrc c; omega), hI⟩
end
section
/-! each part of what holds looks at its own cells alone -/
theorem jg_rows {μ μ' : jm_M} (e2 : μ' 2 = μ 2) (e3 : μ' 3 = μ 3) (e4 : μ' 4 = μ 4) (e97 : μ' 97 = μ 97) (e98 : μ' 98 = μ 98) (e99 : μ' 99 = μ 99) (h : ji_rows μ) : ji_rows μ' := by
  unfold ji_rows at *
  rw [e2, e3, e4, e97, e98, e99]
  exact h
theorem jg_tape {μ μ' : jm_M} (e5 : μ' 5 1 = μ 5 1) (e6 : μ' 6 = μ 6) (e100 : μ' 100 = μ 100) (e8 : μ' 94 8 = μ 94 8) (h : ji_tape μ) : ji_tape μ' := by
  unfold ji_tape at *
  rw [e5, e6, e100, e8]
  exact h
theorem jg_trace {μ μ' : jm_M} (e58 : μ' 58 = μ 58) (e59 : μ' 59 = μ 59) (e101 : μ' 101 = μ 101) (e12 : μ' 94 12 = μ 94 12) (h : ji_trace μ) : ji_trace μ' := by
  unfold ji_trace at *
  rw [e58, e59, e101, e12]
  exact h
theorem jg_mats {μ μ' : jm_M} {h : Int} (e1 : μ' (h + 1) = μ (h + 1)) (e2 : μ' (h + 2) = μ (h + 2)) (q : jh_mats μ h) : jh_mats μ' h := by
  unfold jh_mats at *
  rw [e1, e2]
  exact q
theorem jg_rel {μ μ' : jm_M} {h : Int} {t t' : Int → Int} (hm : jh_mats μ h) (e : ∀ z, h ≤ z → z ≤ h + 16 → μ' z = μ z) (et : ∀ k, 0 ≤ k → k < 62 → t' k = t k) (w0 : 0 ≤ t 0 ∧ t 0 ≤ 4) (w1 : 0 ≤ t 1 ∧ t 1 ≤ 6) (q : jh_rel μ h t) : jh_rel μ' h t' := by
  obtain ⟨⟨a1, a2, a3, a4⟩, b, c, d⟩ := q
  refine ⟨⟨by rw [e h (by omega) (by omega), et 2 (by omega) (by omega)]; exact a1, by rw [e h (by omega) (by omega), et 3 (by omega) (by omega)]; exact a2, by rw [e h (by omega) (by omega), et 0 (by omega) (by omega)]; exact a3, by rw [e h (by omega) (by omega), et 1 (by omega) (by omega)]; exact a4⟩, fun m m0 m1 => ?_, fun m m0 m1 k k0 k1 => ?_, fun x x0 x1 => ?_⟩
  · rw [et 0 (by omega) (by omega)] at m1
    have h1 := hm.1 m m0 (by omega)
    rw [e (h + 1) (by omega) (by omega), e (μ (h + 1) m) (by omega) (by omega), e (μ (h + 1) m + 1) (by omega) (by omega), et (4 + m) (by omega) (by omega)]
    refine ⟨(b m m0 m1).1, fun k k0 k1 => ?_⟩
    rw [et _ (by omega) (by omega)]
    exact (b m m0 m1).2 k k0 k1
  · rw [et 0 (by omega) (by omega)] at m0
    have h1 := hm.1 m (by omega) m1
    rw [e (h + 1) (by omega) (by omega), e (μ (h + 1) m + 1) (by omega) (by omega)]
    exact c m m0 m1 k k0 k1
  · rw [et 1 (by omega) (by omega)] at x1
    rw [e _ (by omega) (by omega), et _ (by omega) (by omega), et _ (by omega) (by omega), et _ (by omega) (by omega), et _ (by omega) (by omega), et _ (by omega) (by omega)]
    exact d x x0 x1
theorem jg_town {μ μ' : jm_M} (e : ∀ z, 7 ≤ z → z ≤ 23 → μ' z = μ z) (e95 : μ' 95 = μ 95) (e1 : μ' 94 1 = μ 94 1) (h : ji_town μ) : ji_town μ' := by
  obtain ⟨a, b, c, d, f, g, i, j⟩ := h
  refine ⟨by rw [e95]; exact a, by rw [e95]; exact b, by rw [e95]; exact c, jg_mats (e 8 (by omega) (by omega)) (e 9 (by omega) (by omega)) d, jg_rel d e (fun k _ _ => by rw [e95]) a.1 a.2.1 f, by rw [e1]; exact g, by rw [e1, e95]; exact i, by rw [e95]; exact j⟩
theorem jg_idle {μ μ' : jm_M} (e25 : μ' 25 = μ 25) (e26 : μ' 26 = μ 26) (e61 : μ' 61 = μ 61) (e62 : μ' 62 = μ 62) (e78 : μ' 78 = μ 78) (e79 : μ' 79 = μ 79) (e41 : μ' 41 = μ 41) (h : ji_idle μ) : ji_idle μ' := by
  unfold ji_idle at *
  rw [e25, e26, e61, e62, e78, e79, e41]
  exact h
theorem jg_im60 {μ : jm_M} (h : ji_idle μ) (k : Int) (hk : k = 0 ∨ k = 1) : jh_mats μ (60 + 17 * k) := by
  obtain ⟨a, b, -, -⟩ := h
  rcases hk with rfl | rfl
  · refine ⟨fun m m0 m1 => ?_, fun m m' m0 m1 m0' m1' q => ?_, fun c c0 c1 => ?_⟩
    · have := (a m m0 m1).2.1
      show μ 61 m = _ ∨ μ 61 m = _ ∨ μ 61 m = _ ∨ μ 61 m = _
      omega
    · have q : μ 61 m = μ 61 m' := q
      have := (a m m0 m1).2.1
      have := (a m' m0' m1').2.1
      omega
    · have := (b c c0 c1).2.1
      show μ 62 c = _
      omega
  · refine ⟨fun m m0 m1 => ?_, fun m m' m0 m1 m0' m1' q => ?_, fun c c0 c1 => ?_⟩
    · have := (a m m0 m1).2.2
      show μ 78 m = _ ∨ μ 78 m = _ ∨ μ 78 m = _ ∨ μ 78 m = _
      omega
    · have q : μ 78 m = μ 78 m' := q
      have := (a m m0 m1).2.2
      have := (a m' m0' m1').2.2
      omega
    · have := (b c c0 c1).2.2
      show μ 79 c = _
      omega
theorem jt_cf_congr {t u : Int → Int} {K : Int} (h : ∀ k, 0 ≤ k → k < 62 → t k = u k) (q : jt_cf t K) : jt_cf u K := fun c c0 c1 => by rw [← h _ (by omega) (by omega)]; exact q c c0 c1
theorem jt_kd_congr {t u : Int → Int} (h : ∀ k, 0 ≤ k → k < 62 → t k = u k) (h1 : t 1 ≤ 6) (q : jt_kd t) : jt_kd u := fun c c0 c1 => by
  rw [← h 1 (by omega) (by omega)] at c1
  rw [← h _ (by omega) (by omega)]
  exact q c c0 c1
theorem jg_img {μ μ' : jm_M} {k : Int} (hk : k = 0 ∨ k = 1) (hi : ji_idle μ) (e42 : μ' 42 k = μ 42 k) (e96 : μ' 96 k = μ 96 k) (e : ∀ z, 60 + 17 * k ≤ z → z ≤ 60 + 17 * k + 16 → μ' z = μ z) (et : ∀ j, 0 ≤ j → j < 62 → μ' 95 (1550 + 62 * k + j) = μ 95 (1550 + 62 * k + j)) (h : ji_img μ k) : ji_img μ' k := by
  obtain ⟨a, b, c⟩ := h
  refine ⟨by rw [e42, e96]; exact a, by rw [e96]; exact b, fun q => ?_⟩
  rw [e96] at q
  obtain ⟨c1, c2, c3, c4, c5⟩ := c q
  have hs : ∀ j, 0 ≤ j → j < 62 → (fun j => μ 95 (1550 + 62 * k + j)) j = (fun j => μ' 95 (1550 + 62 * k + j)) j := fun j j0 j1 => (et j j0 j1).symm
  refine ⟨jt_wf_congr hs c1, jt_cf_congr hs c2, jt_kd_congr hs c1.2.1.2 c3, jg_rel (jg_im60 hi k hk) e (fun j j0 j1 => et j j0 j1) c1.1 c1.2.1 c4, ?_⟩
  have := et 0 (by omega) (by omega)
  rw [Int.add_zero] at this
  rw [this]
  exact c5
theorem jg_past {μ μ' : jm_M} (e2 : μ' 94 2 = μ 94 2) (e43 : μ' 43 = μ 43) (e44 : μ' 44 = μ 44) (e95 : μ' 95 = μ 95) (h : ji_past μ) : ji_past μ' := by
  unfold ji_past at *
  rw [e2, e43, e44, e95]
  exact h
/-- only the objects' own numbers of no part have changed, or both alike -/
theorem jI_same {μ μ' : jm_M} (h : jI μ) (e : ∀ z, z ≠ 0 → z ≠ 94 → μ' z = μ z) (e1 : μ' 94 1 = μ 94 1) (e2 : μ' 94 2 = μ 94 2) (e8 : μ' 94 8 = μ 94 8) (e12 : μ' 94 12 = μ 94 12) (es : μ' 0 11 = μ' 94 10) (ef : μ' 0 10 = μ' 94 9) : jI μ' := by
  obtain ⟨a, b, c, d, f, g, ⟨i0, i1⟩, j⟩ := h
  refine ⟨jg_rows (e 2 (by decide) (by decide)) (e 3 (by decide) (by decide)) (e 4 (by decide) (by decide)) (e 97 (by decide) (by decide)) (e 98 (by decide) (by decide)) (e 99 (by decide) (by decide)) a, jg_tape (by rw [e 5 (by decide) (by decide)]) (e 6 (by decide) (by decide)) (e 100 (by decide) (by decide)) e8 b, jg_trace (e 58 (by decide) (by decide)) (e 59 (by decide) (by decide)) (e 101 (by decide) (by decide)) e12 c, ⟨es, ef⟩, jg_town (fun z z0 z1 => e z (by omega) (by omega)) (e 95 (by decide) (by decide)) e1 f, jg_idle (e _ (by decide) (by decide)) (e _ (by decide) (by decide)) (e _ (by decide) (by decide)) (e _ (by decide) (by decide)) (e _ (by decide) (by decide)) (e _ (by decide) (by decide)) (e _ (by decide) (by decide)) g, ⟨jg_img (Or.inl rfl) g (by rw [e 42 (by decide) (by decide)]) (by rw [e 96 (by decide) (by decide)]) (fun z z0 z1 => e z (by omega) (by omega)) (fun j _ _ => by rw [e 95 (by decide) (by decide)]) i0, jg_img (Or.inr rfl) g (by rw [e 42 (by decide) (by decide)]) (by rw [e 96 (by decide) (by decide)]) (fun z z0 z1 => e z (by omega) (by omega)) (fun j _ _ => by rw [e 95 (by decide) (by decide)]) i1⟩, jg_past e2 (e 43 (by decide) (by decide)) (e 44 (by decide) (by decide)) (e 95 (by decide) (by decide)) j⟩
end
section
set_option maxRecDepth 10000 in
set_option maxHeartbeats 1000000 in
theorem pr_soil {X : jm_X} {m : Int} {y : Int} (r_m : jm_r m) (r_y : jm_r y) : jp X 102 180 [.inl m, .inl y] := by
  intro μ hI
  obtain ⟨⟨hit, hlan⟩, ⟨ht0, ht1, ht2⟩, ⟨hr0, hr1, hr2⟩, ⟨hst, hfa⟩, htown, hidle, himg, hpast⟩ := id hI
  obtain ⟨hwf, hcf, hkd, hmat, hrel, hh01, hhot, hnc⟩ := id htown
  obtain ⟨⟨r0, r1, r2, r3⟩, rm, rz, rc⟩ := id hrel
  obtain ⟨w0, w1, w2, w3, w4, w6, w7, w8⟩ := id hwf
  have hrm : ∀ m, 0 ≤ m → m < μ 95 0 → μ (μ 8 m) 0 = μ 95 (4 + m) ∧ ∀ k, 0 ≤ k → k < 6 → μ (μ 8 m + 1) k = μ 95 (8 + 6 * m + k) := fun m a b => rm m a b
  refine jv_enter (d := 199) jm_p_X9_soil [some (.inr (.inr 0)), some (.inl m), some (.inl y)] rfl rfl rfl (Nat.le_of_ble_eq_true rfl) rfl rfl ?_
  refine jv_aload_n rfl rfl rfl (by decide) ?_
  refine jv_iload_n rfl rfl rfl ?_
  refine jv_callV1 rfl rfl rfl rfl ⟨by decide, rfl⟩ (Nat.le_of_ble_eq_true rfl) (cl_noMat (fun b2 => ?_) (fun b2 => ?_))
  · show jV _ _ jm_p_X9_soil _ 3 [some (.inr (.inr 0)), some (.inl m), some (.inl y)] [.inl 1] μ
    refine jv_if_neT rfl rfl (by decide) ?_
    refine jv_ldc rfl rfl ?_
    refine jv_ireturn rfl (Or.inl rfl) ?_
    refine ⟨_, rfl, ?_⟩
    refine jv_enter (d := 199) jm_p_X10_soil [some (.inr (.inr 94)), some (.inl m), some (.inl y)] rfl rfl rfl (Nat.le_of_ble_eq_true rfl) rfl rfl ?_
    refine jv_aload_n rfl rfl rfl (by decide) ?_
    refine jv_iload_n rfl rfl rfl ?_
    refine jv_callV1 rfl rfl rfl rfl ⟨by decide, rfl⟩ (Nat.le_of_ble_eq_true rfl) (mo_isMat (by omega) (fun b2 => ?_) (fun b2 => ?_))
    · show jV _ _ jm_p_X10_soil _ 3 [some (.inr (.inr 94)), some (.inl m), some (.inl y)] [.inl 1] μ
      refine jv_if_eqF rfl rfl (by decide) ?_
      refine jv_iload_n rfl rfl rfl ?_
      refine jv_i2l rfl rfl ?_
      refine jv_lconst rfl rfl ?_
      refine jv_ldc2_w rfl rfl ?_
      refine jv_callS3 rfl rfl rfl (Nat.le_of_ble_eq_true rfl) (mo_in (fun b8 => ?_) (fun b8 => ?_))
      · show jV _ _ jm_p_X10_soil _ 9 [some (.inr (.inr 94)), some (.inl m), some (.inl y)] [.inl 1] μ
        refine jv_if_eqF rfl rfl (by decide) ?_
        refine jv_aload_n rfl rfl rfl (by decide) ?_
        refine jv_getr (w := 95) rfl rfl rfl ⟨by decide, rfl⟩ rfl rfl ?_
        refine jv_bipush rfl rfl ?_
        refine jv_bipush rfl rfl ?_
        refine jv_iload_n rfl rfl rfl ?_
        refine jv_imul rfl rfl ⟨by omega, by omega⟩ ?_
        refine jv_iadd rfl rfl ⟨by omega, by omega⟩ ?_
        refine jv_iload_n rfl rfl rfl ?_
        refine jv_iadd rfl rfl ⟨by omega, by omega⟩ ?_
        refine jv_iaload rfl rfl (by decide) rfl ⟨by omega, by omega⟩ ?_
        refine jv_goto rfl rfl ?_
        refine jv_ireturn rfl (Or.inl rfl) ?_
        exact ⟨jv_one (by have h9 := fun a b => (hrm m a b).2 y; omega), hI⟩
      · show jV _ _ jm_p_X10_soil _ 9 [some (.inr (.inr 94)), some (.inl m), some (.inl y)] [.inl 0] μ
        refine jv_if_eqT rfl rfl (by decide) ?_
        refine jv_ldc rfl rfl ?_
        refine jv_ireturn rfl (Or.inl rfl) ?_
        exact ⟨jv_one (by have h9 := fun a b => (hrm m a b).2 y; omega), hI⟩
    · show jV _ _ jm_p_X10_soil _ 3 [some (.inr (.inr 94)), some (.inl m), some (.inl y)] [.inl 0] μ
      refine jv_if_eqT rfl rfl (by decide) ?_
      refine jv_ldc rfl rfl ?_
      refine jv_ireturn rfl (Or.inl rfl) ?_
      exact ⟨jv_one (by have h9 := fun a b => (hrm m a b).2 y; omega), hI⟩
  · show jV _ _ jm_p_X9_soil _ 3 [some (.inr (.inr 0)), some (.inl m), some (.inl y)] [.inl 0] μ
    refine jv_if_neF rfl rfl (by decide) ?_
    refine jv_iload_n rfl rfl rfl ?_
    refine jv_if_lt rfl rfl rfl (fun c5 => ?_) (fun c5 => ?_)
    · refine jv_ldc rfl rfl ?_
      refine jv_ireturn rfl (Or.inl rfl) ?_
      refine ⟨_, rfl, ?_⟩
      refine jv_enter (d := 199) jm_p_X10_soil [some (.inr (.inr 94)), some (.inl m), some (.inl y)] rfl rfl rfl (Nat.le_of_ble_eq_true rfl) rfl rfl ?_
      refine jv_aload_n rfl rfl rfl (by decide) ?_
      refine jv_iload_n rfl rfl rfl ?_
      refine jv_callV1 rfl rfl rfl rfl ⟨by decide, rfl⟩ (Nat.le_of_ble_eq_true rfl) (mo_isMat (by omega) (fun b2 => ?_) (fun b2 => ?_))
      · show jV _ _ jm_p_X10_soil _ 3 [some (.inr (.inr 94)), some (.inl m), some (.inl y)] [.inl 1] μ
        refine jv_if_eqF rfl rfl (by decide) ?_
        refine jv_iload_n rfl rfl rfl ?_
        refine jv_i2l rfl rfl ?_
        refine jv_lconst rfl rfl ?_
        refine jv_ldc2_w rfl rfl ?_
        refine jv_callS3 rfl rfl rfl (Nat.le_of_ble_eq_true rfl) (mo_in (fun b8 => ?_) (fun b8 => ?_))
        · show jV _ _ jm_p_X10_soil _ 9 [some (.inr (.inr 94)), some (.inl m), some (.inl y)] [.inl 1] μ
          refine jv_if_eqF rfl rfl (by decide) ?_
          refine jv_aload_n rfl rfl rfl (by decide) ?_
          refine jv_getr (w := 95) rfl rfl rfl ⟨by decide, rfl⟩ rfl rfl ?_
          refine jv_bipush rfl rfl ?_
          refine jv_bipush rfl rfl ?_
          refine jv_iload_n rfl rfl rfl ?_
          refine jv_imul rfl rfl ⟨by omega, by omega⟩ ?_
          refine jv_iadd rfl rfl ⟨by omega, by omega⟩ ?_
          refine jv_iload_n rfl rfl rfl ?_
          refine jv_iadd rfl rfl ⟨by omega, by omega⟩ ?_
          refine jv_iaload rfl rfl (by decide) rfl ⟨by omega, by omega⟩ ?_
          refine jv_goto rfl rfl ?_
          refine jv_ireturn rfl (Or.inl rfl) ?_
          exact ⟨jv_one (by have h9 := fun a b => (hrm m a b).2 y; omega), hI⟩
        · show jV _ _ jm_p_X10_soil _ 9 [some (.inr (.inr 94)), some (.inl m), some (.inl y)] [.inl 0] μ
          refine jv_if_eqT rfl rfl (by decide) ?_
          refine jv_ldc rfl rfl ?_
          refine jv_ireturn rfl (Or.inl rfl) ?_
          exact ⟨jv_one (by have h9 := fun a b => (hrm m a b).2 y; omega), hI⟩
      · show jV _ _ jm_p_X10_soil _ 3 [some (.inr (.inr 94)), some (.inl m), some (.inl y)] [.inl 0] μ
        refine jv_if_eqT rfl rfl (by decide) ?_
        refine jv_ldc rfl rfl ?_
        refine jv_ireturn rfl (Or.inl rfl) ?_
        exact ⟨jv_one (by have h9 := fun a b => (hrm m a b).2 y; omega), hI⟩
    · refine jv_iload_n rfl rfl rfl ?_
      refine jv_bipush rfl rfl ?_
      refine jv_icmp_lt rfl rfl rfl (fun c8 => ?_) (fun c8 => ?_)
      · refine jv_aload_n rfl rfl rfl (by decide) ?_
        refine jv_getr (w := 7) rfl rfl rfl ⟨by decide, rfl⟩ rfl rfl ?_
        refine jv_getr (w := 8) rfl rfl rfl ⟨by decide, rfl⟩ rfl rfl ?_
        refine jv_iload_n rfl rfl rfl ?_
        refine jv_aaload rfl rfl rfl ⟨by decide, by decide, by decide⟩ ⟨by omega, by omega⟩ ?_
        refine jv_getr (w := (μ 8 m) + 1) rfl rfl (jz_mat7 hmat (m := m) (by omega) (by omega)).1 ⟨(jz_mat7 hmat (m := m) (by omega) (by omega)).2.2.1, rfl⟩ rfl rfl ?_
        refine jv_iload_n rfl rfl rfl ?_
        refine jv_iaload rfl rfl (by have := (jz_mat7 hmat (m := m) (by omega) (by omega)).2.2; omega) (jz_mat7 hmat (m := m) (by omega) (by omega)).2.1 ⟨by omega, by omega⟩ ?_
        refine jv_ireturn rfl (Or.inl rfl) ?_
        refine ⟨_, rfl, ?_⟩
        refine jv_enter (d := 199) jm_p_X10_soil [some (.inr (.inr 94)), some (.inl m), some (.inl y)] rfl rfl rfl (Nat.le_of_ble_eq_true rfl) rfl rfl ?_
        refine jv_aload_n rfl rfl rfl (by decide) ?_
        refine jv_iload_n rfl rfl rfl ?_
        refine jv_callV1 rfl rfl rfl rfl ⟨by decide, rfl⟩ (Nat.le_of_ble_eq_true rfl) (mo_isMat (by omega) (fun b2 => ?_) (fun b2 => ?_))
        · show jV _ _ jm_p_X10_soil _ 3 [some (.inr (.inr 94)), some (.inl m), some (.inl y)] [.inl 1] μ
          refine jv_if_eqF rfl rfl (by decide) ?_
          refine jv_iload_n rfl rfl rfl ?_
          refine jv_i2l rfl rfl ?_
          refine jv_lconst rfl rfl ?_
          refine jv_ldc2_w rfl rfl ?_
          refine jv_callS3 rfl rfl rfl (Nat.le_of_ble_eq_true rfl) (mo_in (fun b8 => ?_) (fun b8 => ?_))
          · show jV _ _ jm_p_X10_soil _ 9 [some (.inr (.inr 94)), some (.inl m), some (.inl y)] [.inl 1] μ
            refine jv_if_eqF rfl rfl (by decide) ?_
            refine jv_aload_n rfl rfl rfl (by decide) ?_
            refine jv_getr (w := 95) rfl rfl rfl ⟨by decide, rfl⟩ rfl rfl ?_
            refine jv_bipush rfl rfl ?_
            refine jv_bipush rfl rfl ?_
            refine jv_iload_n rfl rfl rfl ?_
            refine jv_imul rfl rfl ⟨by omega, by omega⟩ ?_
            refine jv_iadd rfl rfl ⟨by omega, by omega⟩ ?_
            refine jv_iload_n rfl rfl rfl ?_
            refine jv_iadd rfl rfl ⟨by omega, by omega⟩ ?_
            refine jv_iaload rfl rfl (by decide) rfl ⟨by omega, by omega⟩ ?_
            refine jv_goto rfl rfl ?_
            refine jv_ireturn rfl (Or.inl rfl) ?_
            exact ⟨jv_one (by have h9 := fun a b => (hrm m a b).2 y; omega), hI⟩
          · show jV _ _ jm_p_X10_soil _ 9 [some (.inr (.inr 94)), some (.inl m), some (.inl y)] [.inl 0] μ
            refine jv_if_eqT rfl rfl (by decide) ?_
            refine jv_ldc rfl rfl ?_
            refine jv_ireturn rfl (Or.inl rfl) ?_
            exact ⟨jv_one (by have h9 := fun a b => (hrm m a b).2 y; omega), hI⟩
        · show jV _ _ jm_p_X10_soil _ 3 [some (.inr (.inr 94)), some (.inl m), some (.inl y)] [.inl 0] μ
          refine jv_if_eqT rfl rfl (by decide) ?_
          refine jv_ldc rfl rfl ?_
          refine jv_ireturn rfl (Or.inl rfl) ?_
          exact ⟨jv_one (by have h9 := fun a b => (hrm m a b).2 y; omega), hI⟩
      · refine jv_ldc rfl rfl ?_
        refine jv_ireturn rfl (Or.inl rfl) ?_
        refine ⟨_, rfl, ?_⟩
        refine jv_enter (d := 199) jm_p_X10_soil [some (.inr (.inr 94)), some (.inl m), some (.inl y)] rfl rfl rfl (Nat.le_of_ble_eq_true rfl) rfl rfl ?_
        refine jv_aload_n rfl rfl rfl (by decide) ?_
        refine jv_iload_n rfl rfl rfl ?_
        refine jv_callV1 rfl rfl rfl rfl ⟨by decide, rfl⟩ (Nat.le_of_ble_eq_true rfl) (mo_isMat (by omega) (fun b2 => ?_) (fun b2 => ?_))
        · show jV _ _ jm_p_X10_soil _ 3 [some (.inr (.inr 94)), some (.inl m), some (.inl y)] [.inl 1] μ
          refine jv_if_eqF rfl rfl (by decide) ?_
          refine jv_iload_n rfl rfl rfl ?_
          refine jv_i2l rfl rfl ?_
          refine jv_lconst rfl rfl ?_
          refine jv_ldc2_w rfl rfl ?_
          refine jv_callS3 rfl rfl rfl (Nat.le_of_ble_eq_true rfl) (mo_in (fun b8 => ?_) (fun b8 => ?_))
          · show jV _ _ jm_p_X10_soil _ 9 [some (.inr (.inr 94)), some (.inl m), some (.inl y)] [.inl 1] μ
            refine jv_if_eqF rfl rfl (by decide) ?_
            refine jv_aload_n rfl rfl rfl (by decide) ?_
            refine jv_getr (w := 95) rfl rfl rfl ⟨by decide, rfl⟩ rfl rfl ?_
            refine jv_bipush rfl rfl ?_
            refine jv_bipush rfl rfl ?_
            refine jv_iload_n rfl rfl rfl ?_
            refine jv_imul rfl rfl ⟨by omega, by omega⟩ ?_
            refine jv_iadd rfl rfl ⟨by omega, by omega⟩ ?_
            refine jv_iload_n rfl rfl rfl ?_
            refine jv_iadd rfl rfl ⟨by omega, by omega⟩ ?_
            refine jv_iaload rfl rfl (by decide) rfl ⟨by omega, by omega⟩ ?_
            refine jv_goto rfl rfl ?_
            refine jv_ireturn rfl (Or.inl rfl) ?_
            exact ⟨jv_one (by have h9 := fun a b => (hrm m a b).2 y; omega), hI⟩
          · show jV _ _ jm_p_X10_soil _ 9 [some (.inr (.inr 94)), some (.inl m), some (.inl y)] [.inl 0] μ
            refine jv_if_eqT rfl rfl (by decide) ?_
            refine jv_ldc rfl rfl ?_
            refine jv_ireturn rfl (Or.inl rfl) ?_
            exact ⟨jv_one (by have h9 := fun a b => (hrm m a b).2 y; omega), hI⟩
        · show jV _ _ jm_p_X10_soil _ 3 [some (.inr (.inr 94)), some (.inl m), some (.inl y)] [.inl 0] μ
          refine jv_if_eqT rfl rfl (by decide) ?_
          refine jv_ldc rfl rfl ?_
          refine jv_ireturn rfl (Or.inl rfl) ?_
          exact ⟨jv_one (by have h9 := fun a b => (hrm m a b).2 y; omega), hI⟩
set_option maxRecDepth 10000 in
theorem cl_traced {X : jm_X} {d : Nat} {Q : jv_P} {μ : jm_M} {y : Int} (h1 : 0 ≤ μ 58 1 ∧ μ 58 1 ≤ 16) (k1 : 0 ≤ y ∧ y < μ 58 1 → Q [.inl (μ 59 y)] μ) (k0 : ¬ (0 ≤ y ∧ y < μ 58 1) → Q [.inl (-1000000)] μ) : cV X (d + 1) 2 [.inr (.inr 58), .inl y] μ Q := by
  refine jv_enter (d := d + 0) jm_p_X0_traced [some (.inr (.inr 58)), some (.inl y)] rfl rfl rfl (Nat.le_of_ble_eq_true rfl) rfl rfl ?_
  refine jv_iload_n rfl rfl rfl ?_
  refine jv_if_lt rfl rfl rfl (fun c1 => ?_) (fun c1 => ?_)
  · refine jv_ldc rfl rfl ?_
    refine jv_ireturn rfl (Or.inl rfl) ?_
    exact k0 (by omega)
  · refine jv_iload_n rfl rfl rfl ?_
    refine jv_aload_n rfl rfl rfl (by decide) ?_
    refine jv_geti rfl rfl rfl ⟨by decide, rfl⟩ (by decide) ?_
    refine jv_icmp_ge rfl rfl rfl (fun c5 => ?_) (fun c5 => ?_)
    · refine jv_ldc rfl rfl ?_
      refine jv_ireturn rfl (Or.inl rfl) ?_
      exact k0 (by omega)
    · refine jv_aload_n rfl rfl rfl (by decide) ?_
      refine jv_getr (w := 59) rfl rfl rfl ⟨by decide, rfl⟩ rfl rfl ?_
      refine jv_iload_n rfl rfl rfl ?_
      refine jv_iaload rfl rfl (by decide) rfl ⟨by omega, by omega⟩ ?_
      refine jv_goto rfl rfl ?_
      refine jv_ireturn rfl (Or.inl rfl) ?_
      exact k1 (by omega)
set_option maxRecDepth 10000 in
set_option maxHeartbeats 1000000 in
theorem pr_trace {X : jm_X} {y : Int} (r_y : jm_r y) : jp X 121 219 [.inl y] := by
  intro μ hI
  obtain ⟨⟨hit, hlan⟩, ⟨ht0, ht1, ht2⟩, ⟨hr0, hr1, hr2⟩, ⟨hst, hfa⟩, htown, hidle, himg, hpast⟩ := id hI
  obtain ⟨hwf, hcf, hkd, hmat, hrel, hh01, hhot, hnc⟩ := id htown
  obtain ⟨⟨r0, r1, r2, r3⟩, rm, rz, rc⟩ := id hrel
  obtain ⟨w0, w1, w2, w3, w4, w6, w7, w8⟩ := id hwf
  refine jv_enter (d := 199) jm_p_X9_trace [some (.inr (.inr 0)), some (.inl y)] rfl rfl rfl (Nat.le_of_ble_eq_true rfl) rfl rfl ?_
  refine jv_aload_n rfl rfl rfl (by decide) ?_
  refine jv_getr (w := 58) rfl rfl rfl ⟨by decide, rfl⟩ rfl rfl ?_
  refine jv_iload_n rfl rfl rfl ?_
  refine jv_callV1 rfl rfl rfl rfl ⟨by decide, rfl⟩ (Nat.le_of_ble_eq_true rfl) (cl_traced (by omega) (fun b3 => ?_) (fun b3 => ?_))
  · show jV _ _ jm_p_X9_trace _ 4 [some (.inr (.inr 0)), some (.inl y)] [.inl (μ 59 y)] μ
    refine jv_ireturn rfl (Or.inl rfl) ?_
    refine ⟨_, rfl, ?_⟩
    refine jv_enter (d := 199) jm_p_X10_trace [some (.inr (.inr 94)), some (.inl y)] rfl rfl rfl (Nat.le_of_ble_eq_true rfl) rfl rfl ?_
    refine jv_iload_n rfl rfl rfl ?_
    refine jv_i2l rfl rfl ?_
    refine jv_lconst rfl rfl ?_
    refine jv_aload_n rfl rfl rfl (by decide) ?_
    refine jv_geti rfl rfl rfl ⟨by decide, rfl⟩ (by decide) ?_
    refine jv_iconst rfl rfl ?_
    refine jv_isub rfl rfl ⟨by omega, by omega⟩ ?_
    refine jv_i2l rfl rfl ?_
    refine jv_callS3 rfl rfl rfl (Nat.le_of_ble_eq_true rfl) (mo_in (fun b8 => ?_) (fun b8 => ?_))
    · show jV _ _ jm_p_X10_trace _ 9 [some (.inr (.inr 94)), some (.inl y)] [.inl 1] μ
      refine jv_if_eqF rfl rfl (by decide) ?_
      refine jv_aload_n rfl rfl rfl (by decide) ?_
      refine jv_getr (w := 101) rfl rfl rfl ⟨by decide, rfl⟩ rfl rfl ?_
      refine jv_iload_n rfl rfl rfl ?_
      refine jv_iaload rfl rfl (by decide) rfl ⟨by omega, by omega⟩ ?_
      refine jv_goto rfl rfl ?_
      refine jv_ireturn rfl (Or.inl rfl) ?_
      exact ⟨jv_one (by have h9 := hr2 y; omega), hI⟩
    · show jV _ _ jm_p_X10_trace _ 9 [some (.inr (.inr 94)), some (.inl y)] [.inl 0] μ
      refine jv_if_eqT rfl rfl (by decide) ?_
      refine jv_ldc rfl rfl ?_
      refine jv_ireturn rfl (Or.inl rfl) ?_
      exact ⟨jv_one (by have h9 := hr2 y; omega), hI⟩
  · show jV _ _ jm_p_X9_trace _ 4 [some (.inr (.inr 0)), some (.inl y)] [.inl (-1000000)] μ
    refine jv_ireturn rfl (Or.inl rfl) ?_
    refine ⟨_, rfl, ?_⟩
    refine jv_enter (d := 199) jm_p_X10_trace [some (.inr (.inr 94)), some (.inl y)] rfl rfl rfl (Nat.le_of_ble_eq_true rfl) rfl rfl ?_
    refine jv_iload_n rfl rfl rfl ?_
    refine jv_i2l rfl rfl ?_
    refine jv_lconst rfl rfl ?_
    refine jv_aload_n rfl rfl rfl (by decide) ?_
    refine jv_geti rfl rfl rfl ⟨by decide, rfl⟩ (by decide) ?_
    refine jv_iconst rfl rfl ?_
    refine jv_isub rfl rfl ⟨by omega, by omega⟩ ?_
    refine jv_i2l rfl rfl ?_
    refine jv_callS3 rfl rfl rfl (Nat.le_of_ble_eq_true rfl) (mo_in (fun b8 => ?_) (fun b8 => ?_))
    · show jV _ _ jm_p_X10_trace _ 9 [some (.inr (.inr 94)), some (.inl y)] [.inl 1] μ
      refine jv_if_eqF rfl rfl (by decide) ?_
      refine jv_aload_n rfl rfl rfl (by decide) ?_
      refine jv_getr (w := 101) rfl rfl rfl ⟨by decide, rfl⟩ rfl rfl ?_
      refine jv_iload_n rfl rfl rfl ?_
      refine jv_iaload rfl rfl (by decide) rfl ⟨by omega, by omega⟩ ?_
      refine jv_goto rfl rfl ?_
      refine jv_ireturn rfl (Or.inl rfl) ?_
      exact ⟨jv_one (by have h9 := hr2 y; omega), hI⟩
    · show jV _ _ jm_p_X10_trace _ 9 [some (.inr (.inr 94)), some (.inl y)] [.inl 0] μ
      refine jv_if_eqT rfl rfl (by decide) ?_
      refine jv_ldc rfl rfl ?_
      refine jv_ireturn rfl (Or.inl rfl) ?_
      exact ⟨jv_one (by have h9 := hr2 y; omega), hI⟩
def jt_one (t : Int → Int) (a b : Int) : Prop := t 3 ≤ t (8 + 6 * a + t (4 + b)) ∧ t 3 ≤ t (8 + 6 * b + t (4 + a))
set_option maxRecDepth 10000 in
theorem cl_areAtOne {X : jm_X} {d : Nat} {Q : jv_P} {μ : jm_M} {a b : Int} {t : Int → Int} (hmat : jh_mats μ 7) (hr : jh_rel μ 7 t) (hw : jt_wf t) (ha : 0 ≤ a ∧ a < t 0) (hb : 0 ≤ b ∧ b < t 0)  (k1 : jt_one t a b → Q [.inl 1] μ) (k0 : ¬ jt_one t a b → Q [.inl 0] μ) : cV X (d + 1) 46 [.inr (.inr 7), .inl a, .inl b] μ Q := by
  obtain ⟨⟨r0, r1, r2, r3⟩, rm, -, -⟩ := id hr
  obtain ⟨w0, w1, w2, w3, w4, w6, w7, w8⟩ := id hw
  have hrm : ∀ m, 0 ≤ m → m < t 0 → μ (μ 8 m) 0 = t (4 + m) ∧ ∀ k, 0 ≤ k → k < 6 → μ (μ 8 m + 1) k = t (8 + 6 * m + k) := fun m a b => rm m a b
  have ca := (hrm a ha.1 ha.2).1
  have cb := (hrm b hb.1 hb.2).1
  have wa := w4 a ha.1 (by omega)
  have wb := w4 b hb.1 (by omega)
  have sa := (hrm a ha.1 ha.2).2 (t (4 + b)) (by omega) (by omega)
  have sb := (hrm b hb.1 hb.2).2 (t (4 + a)) (by omega) (by omega)
  rw [← cb] at sa
  rw [← ca] at sb
  refine jv_enter (d := d + 0) jm_p_X4_areAtOne [some (.inr (.inr 7)), some (.inl a), some (.inl b)] rfl rfl rfl (Nat.le_of_ble_eq_true rfl) rfl rfl ?_
  refine jv_aload_n rfl rfl rfl (by decide) ?_
  refine jv_getr (w := 8) rfl rfl rfl ⟨by decide, rfl⟩ rfl rfl ?_
  refine jv_iload_n rfl rfl rfl ?_
  refine jv_aaload rfl rfl rfl ⟨by decide, by decide, by decide⟩ ⟨by omega, by omega⟩ ?_
  refine jv_getr (w := (μ 8 a) + 1) rfl rfl (jz_mat7 hmat (m := a) (by omega) (by omega)).1 ⟨(jz_mat7 hmat (m := a) (by omega) (by omega)).2.2.1, rfl⟩ rfl rfl ?_
  refine jv_aload_n rfl rfl rfl (by decide) ?_
  refine jv_getr (w := 8) rfl rfl rfl ⟨by decide, rfl⟩ rfl rfl ?_
  refine jv_iload_n rfl rfl rfl ?_
  refine jv_aaload rfl rfl rfl ⟨by decide, by decide, by decide⟩ ⟨by omega, by omega⟩ ?_
  refine jv_geti rfl rfl (jz_mat7 hmat (m := b) (by omega) (by omega)).1 ⟨(jz_mat7 hmat (m := b) (by omega) (by omega)).2.2.1, rfl⟩ (by decide) ?_
  refine jv_iaload rfl rfl (by have := (jz_mat7 hmat (m := a) (by omega) (by omega)).2.2; omega) (jz_mat7 hmat (m := a) (by omega) (by omega)).2.1 ⟨by omega, by omega⟩ ?_
  refine jv_aload_n rfl rfl rfl (by decide) ?_
  refine jv_geti rfl rfl rfl ⟨by decide, rfl⟩ (by decide) ?_
  refine jv_icmp_lt rfl rfl rfl (fun c13 => ?_) (fun c13 => ?_)
  · refine jv_iconst rfl rfl ?_
    refine jv_ireturn rfl (Or.inr ⟨rfl, by decide⟩) ?_
    exact k0 (by unfold jt_one; rw [← cb, ← ca]; omega)
  · refine jv_aload_n rfl rfl rfl (by decide) ?_
    refine jv_getr (w := 8) rfl rfl rfl ⟨by decide, rfl⟩ rfl rfl ?_
    refine jv_iload_n rfl rfl rfl ?_
    refine jv_aaload rfl rfl rfl ⟨by decide, by decide, by decide⟩ ⟨by omega, by omega⟩ ?_
    refine jv_getr (w := (μ 8 b) + 1) rfl rfl (jz_mat7 hmat (m := b) (by omega) (by omega)).1 ⟨(jz_mat7 hmat (m := b) (by omega) (by omega)).2.2.1, rfl⟩ rfl rfl ?_
    refine jv_aload_n rfl rfl rfl (by decide) ?_
    refine jv_getr (w := 8) rfl rfl rfl ⟨by decide, rfl⟩ rfl rfl ?_
    refine jv_iload_n rfl rfl rfl ?_
    refine jv_aaload rfl rfl rfl ⟨by decide, by decide, by decide⟩ ⟨by omega, by omega⟩ ?_
    refine jv_geti rfl rfl (jz_mat7 hmat (m := a) (by omega) (by omega)).1 ⟨(jz_mat7 hmat (m := a) (by omega) (by omega)).2.2.1, rfl⟩ (by decide) ?_
    refine jv_iaload rfl rfl (by have := (jz_mat7 hmat (m := b) (by omega) (by omega)).2.2; omega) (jz_mat7 hmat (m := b) (by omega) (by omega)).2.1 ⟨by omega, by omega⟩ ?_
    refine jv_aload_n rfl rfl rfl (by decide) ?_
    refine jv_geti rfl rfl rfl ⟨by decide, rfl⟩ (by decide) ?_
    refine jv_icmp_lt rfl rfl rfl (fun c27 => ?_) (fun c27 => ?_)
    · refine jv_iconst rfl rfl ?_
      refine jv_ireturn rfl (Or.inr ⟨rfl, by decide⟩) ?_
      exact k0 (by unfold jt_one; rw [← cb, ← ca]; omega)
    · refine jv_iconst rfl rfl ?_
      refine jv_goto rfl rfl ?_
      refine jv_ireturn rfl (Or.inr ⟨rfl, by decide⟩) ?_
      exact k1 (by unfold jt_one; rw [← cb, ← ca]; omega)
set_option maxRecDepth 10000 in
theorem mo_areAtOne {X : jm_X} {d : Nat} {Q : jv_P} {μ : jm_M} {base a b : Int} (hbs : 0 ≤ base ∧ base ≤ 1674) (ha : 0 ≤ a ∧ a < 4) (hb : 0 ≤ b ∧ b < 4) (hw : jt_wf (fun k => μ 95 (base + k)))  (k1 : a ≠ b ∧ jt_one (fun k => μ 95 (base + k)) a b → Q [.inl 1] μ) (k0 : ¬ (a ≠ b ∧ jt_one (fun k => μ 95 (base + k)) a b) → Q [.inl 0] μ) : cV X (d + 1) 171 [.inr (.inr 94), .inl base, .inl a, .inl b] μ Q := by
  obtain ⟨w0, w1, w2, w3, w4, w6, w7, w8⟩ := id hw
  have w4a := w4 a ha.1 ha.2
  have w4b := w4 b hb.1 hb.2
  simp only [← Int.add_assoc] at w4a w4b
  dsimp only at w3
  refine jv_enter (d := d + 0) jm_p_X10_areAtOne [some (.inr (.inr 94)), some (.inl base), some (.inl a), some (.inl b), none, none] rfl rfl rfl (Nat.le_of_ble_eq_true rfl) rfl rfl ?_
  refine jv_aload_n rfl rfl rfl (by decide) ?_
  refine jv_getr (w := 95) rfl rfl rfl ⟨by decide, rfl⟩ rfl rfl ?_
  refine jv_iload_n rfl rfl rfl ?_
  refine jv_bipush rfl rfl ?_
  refine jv_iadd rfl rfl ⟨by omega, by omega⟩ ?_
  refine jv_bipush rfl rfl ?_
  refine jv_iload_n rfl rfl rfl ?_
  refine jv_imul rfl rfl ⟨by omega, by omega⟩ ?_
  refine jv_iadd rfl rfl ⟨by omega, by omega⟩ ?_
  refine jv_aload_n rfl rfl rfl (by decide) ?_
  refine jv_getr (w := 95) rfl rfl rfl ⟨by decide, rfl⟩ rfl rfl ?_
  refine jv_iload_n rfl rfl rfl ?_
  refine jv_iconst rfl rfl ?_
  refine jv_iadd rfl rfl ⟨by omega, by omega⟩ ?_
  refine jv_iload_n rfl rfl rfl ?_
  refine jv_iadd rfl rfl ⟨by omega, by omega⟩ ?_
  refine jv_iaload rfl rfl (by decide) rfl ⟨by omega, by omega⟩ ?_
  refine jv_iadd rfl rfl ⟨by omega, by omega⟩ ?_
  refine jv_iaload rfl rfl (by decide) rfl ⟨by omega, by omega⟩ ?_
  refine jv_aload_n rfl rfl rfl (by decide) ?_
  refine jv_getr (w := 95) rfl rfl rfl ⟨by decide, rfl⟩ rfl rfl ?_
  refine jv_iload_n rfl rfl rfl ?_
  refine jv_iconst rfl rfl ?_
  refine jv_iadd rfl rfl ⟨by omega, by omega⟩ ?_
  refine jv_iaload rfl rfl (by decide) rfl ⟨by omega, by omega⟩ ?_
  refine jv_icmp_lt rfl rfl rfl (fun c25 => ?_) (fun c25 => ?_)
  · refine jv_iconst rfl rfl ?_
    refine jv_istoreK (L2 := [some (.inr (.inr 94)), some (.inl base), some (.inl a), some (.inl b), some (.inl 0), none]) rfl rfl rfl ?_
    refine jv_aload_n rfl rfl rfl (by decide) ?_
    refine jv_getr (w := 95) rfl rfl rfl ⟨by decide, rfl⟩ rfl rfl ?_
    refine jv_iload_n rfl rfl rfl ?_
    refine jv_bipush rfl rfl ?_
    refine jv_iadd rfl rfl ⟨by omega, by omega⟩ ?_
    refine jv_bipush rfl rfl ?_
    refine jv_iload_n rfl rfl rfl ?_
    refine jv_imul rfl rfl ⟨by omega, by omega⟩ ?_
    refine jv_iadd rfl rfl ⟨by omega, by omega⟩ ?_
    refine jv_aload_n rfl rfl rfl (by decide) ?_
    refine jv_getr (w := 95) rfl rfl rfl ⟨by decide, rfl⟩ rfl rfl ?_
    refine jv_iload_n rfl rfl rfl ?_
    refine jv_iconst rfl rfl ?_
    refine jv_iadd rfl rfl ⟨by omega, by omega⟩ ?_
    refine jv_iload_n rfl rfl rfl ?_
    refine jv_iadd rfl rfl ⟨by omega, by omega⟩ ?_
    refine jv_iaload rfl rfl (by decide) rfl ⟨by omega, by omega⟩ ?_
    refine jv_iadd rfl rfl ⟨by omega, by omega⟩ ?_
    refine jv_iaload rfl rfl (by decide) rfl ⟨by omega, by omega⟩ ?_
    refine jv_aload_n rfl rfl rfl (by decide) ?_
    refine jv_getr (w := 95) rfl rfl rfl ⟨by decide, rfl⟩ rfl rfl ?_
    refine jv_iload_n rfl rfl rfl ?_
    refine jv_iconst rfl rfl ?_
    refine jv_iadd rfl rfl ⟨by omega, by omega⟩ ?_
    refine jv_iaload rfl rfl (by decide) rfl ⟨by omega, by omega⟩ ?_
    refine jv_icmp_lt rfl rfl rfl (fun c55 => ?_) (fun c55 => ?_)
    · refine jv_iconst rfl rfl ?_
      refine jv_istoreK (L2 := [some (.inr (.inr 94)), some (.inl base), some (.inl a), some (.inl b), some (.inl 0), some (.inl 0)]) rfl rfl rfl ?_
      refine jv_iload_n rfl rfl rfl ?_
      refine jv_iload_n rfl rfl rfl ?_
      refine jv_icmp_eq rfl rfl rfl (fun c62 => ?_) (fun c62 => ?_)
      · refine jv_iconst rfl rfl ?_
        refine jv_ireturn rfl (Or.inr ⟨rfl, by decide⟩) ?_
        exact k0 (by unfold jt_one; simp only [← Int.add_assoc]; omega)
      · refine jv_iload rfl rfl rfl ?_
        refine jv_if_eqT rfl rfl (by decide) ?_
        refine jv_iconst rfl rfl ?_
        refine jv_ireturn rfl (Or.inr ⟨rfl, by decide⟩) ?_
        exact k0 (by unfold jt_one; simp only [← Int.add_assoc]; omega)
    · refine jv_iconst rfl rfl ?_
      refine jv_goto rfl rfl ?_
      refine jv_istoreK (L2 := [some (.inr (.inr 94)), some (.inl base), some (.inl a), some (.inl b), some (.inl 0), some (.inl 1)]) rfl rfl rfl ?_
      refine jv_iload_n rfl rfl rfl ?_
      refine jv_iload_n rfl rfl rfl ?_
      refine jv_icmp_eq rfl rfl rfl (fun c62_1 => ?_) (fun c62_1 => ?_)
      · refine jv_iconst rfl rfl ?_
        refine jv_ireturn rfl (Or.inr ⟨rfl, by decide⟩) ?_
        exact k0 (by unfold jt_one; simp only [← Int.add_assoc]; omega)
      · refine jv_iload rfl rfl rfl ?_
        refine jv_if_eqT rfl rfl (by decide) ?_
        refine jv_iconst rfl rfl ?_
        refine jv_ireturn rfl (Or.inr ⟨rfl, by decide⟩) ?_
        exact k0 (by unfold jt_one; simp only [← Int.add_assoc]; omega)
  · refine jv_iconst rfl rfl ?_
    refine jv_goto rfl rfl ?_
    refine jv_istoreK (L2 := [some (.inr (.inr 94)), some (.inl base), some (.inl a), some (.inl b), some (.inl 1), none]) rfl rfl rfl ?_
    refine jv_aload_n rfl rfl rfl (by decide) ?_
    refine jv_getr (w := 95) rfl rfl rfl ⟨by decide, rfl⟩ rfl rfl ?_
    refine jv_iload_n rfl rfl rfl ?_
    refine jv_bipush rfl rfl ?_
    refine jv_iadd rfl rfl ⟨by omega, by omega⟩ ?_
    refine jv_bipush rfl rfl ?_
    refine jv_iload_n rfl rfl rfl ?_
    refine jv_imul rfl rfl ⟨by omega, by omega⟩ ?_
    refine jv_iadd rfl rfl ⟨by omega, by omega⟩ ?_
    refine jv_aload_n rfl rfl rfl (by decide) ?_
    refine jv_getr (w := 95) rfl rfl rfl ⟨by decide, rfl⟩ rfl rfl ?_
    refine jv_iload_n rfl rfl rfl ?_
    refine jv_iconst rfl rfl ?_
    refine jv_iadd rfl rfl ⟨by omega, by omega⟩ ?_
    refine jv_iload_n rfl rfl rfl ?_
    refine jv_iadd rfl rfl ⟨by omega, by omega⟩ ?_
    refine jv_iaload rfl rfl (by decide) rfl ⟨by omega, by omega⟩ ?_
    refine jv_iadd rfl rfl ⟨by omega, by omega⟩ ?_
    refine jv_iaload rfl rfl (by decide) rfl ⟨by omega, by omega⟩ ?_
    refine jv_aload_n rfl rfl rfl (by decide) ?_
    refine jv_getr (w := 95) rfl rfl rfl ⟨by decide, rfl⟩ rfl rfl ?_
    refine jv_iload_n rfl rfl rfl ?_
    refine jv_iconst rfl rfl ?_
    refine jv_iadd rfl rfl ⟨by omega, by omega⟩ ?_
    refine jv_iaload rfl rfl (by decide) rfl ⟨by omega, by omega⟩ ?_
    refine jv_icmp_lt rfl rfl rfl (fun c55_1 => ?_) (fun c55_1 => ?_)
    · refine jv_iconst rfl rfl ?_
      refine jv_istoreK (L2 := [some (.inr (.inr 94)), some (.inl base), some (.inl a), some (.inl b), some (.inl 1), some (.inl 0)]) rfl rfl rfl ?_
      refine jv_iload_n rfl rfl rfl ?_
      refine jv_iload_n rfl rfl rfl ?_
      refine jv_icmp_eq rfl rfl rfl (fun c62_2 => ?_) (fun c62_2 => ?_)
      · refine jv_iconst rfl rfl ?_
        refine jv_ireturn rfl (Or.inr ⟨rfl, by decide⟩) ?_
        exact k0 (by unfold jt_one; simp only [← Int.add_assoc]; omega)
      · refine jv_iload rfl rfl rfl ?_
        refine jv_if_eqF rfl rfl (by decide) ?_
        refine jv_iload rfl rfl rfl ?_
        refine jv_if_eqT rfl rfl (by decide) ?_
        refine jv_iconst rfl rfl ?_
        refine jv_ireturn rfl (Or.inr ⟨rfl, by decide⟩) ?_
        exact k0 (by unfold jt_one; simp only [← Int.add_assoc]; omega)
    · refine jv_iconst rfl rfl ?_
      refine jv_goto rfl rfl ?_
      refine jv_istoreK (L2 := [some (.inr (.inr 94)), some (.inl base), some (.inl a), some (.inl b), some (.inl 1), some (.inl 1)]) rfl rfl rfl ?_
      refine jv_iload_n rfl rfl rfl ?_
      refine jv_iload_n rfl rfl rfl ?_
      refine jv_icmp_eq rfl rfl rfl (fun c62_3 => ?_) (fun c62_3 => ?_)
      · refine jv_iconst rfl rfl ?_
        refine jv_ireturn rfl (Or.inr ⟨rfl, by decide⟩) ?_
        exact k0 (by unfold jt_one; simp only [← Int.add_assoc]; omega)
      · refine jv_iload rfl rfl rfl ?_
        refine jv_if_eqF rfl rfl (by decide) ?_
        refine jv_iload rfl rfl rfl ?_
        refine jv_if_eqF rfl rfl (by decide) ?_
        refine jv_iconst rfl rfl ?_
        refine jv_goto rfl rfl ?_
        refine jv_ireturn rfl (Or.inr ⟨rfl, by decide⟩) ?_
        exact k1 (by unfold jt_one; simp only [← Int.add_assoc]; omega)
set_option maxRecDepth 10000 in
set_option maxHeartbeats 1000000 in
theorem pr_atOne {X : jm_X} {m : Int} {y : Int} (r_m : jm_r m) (r_y : jm_r y) : jp X 103 181 [.inl m, .inl y] := by
  intro μ hI
  obtain ⟨⟨hit, hlan⟩, ⟨ht0, ht1, ht2⟩, ⟨hr0, hr1, hr2⟩, ⟨hst, hfa⟩, htown, hidle, himg, hpast⟩ := id hI
  obtain ⟨hwf, hcf, hkd, hmat, hrel, hh01, hhot, hnc⟩ := id htown
  obtain ⟨⟨r0, r1, r2, r3⟩, rm, rz, rc⟩ := id hrel
  obtain ⟨w0, w1, w2, w3, w4, w6, w7, w8⟩ := id hwf
  have hwf0 : jt_wf (fun k => μ 95 (0 + k)) := by simp only [Int.zero_add]; exact hwf
  have hone : ∀ a b, jt_one (fun k => μ 95 (0 + k)) a b ↔ jt_one (μ 95) a b := by intro a b; simp only [Int.zero_add]
  refine jv_enter (d := 199) jm_p_X9_atOne [some (.inr (.inr 0)), some (.inl m), some (.inl y)] rfl rfl rfl (Nat.le_of_ble_eq_true rfl) rfl rfl ?_
  refine jv_aload_n rfl rfl rfl (by decide) ?_
  refine jv_iload_n rfl rfl rfl ?_
  refine jv_callV1 rfl rfl rfl rfl ⟨by decide, rfl⟩ (Nat.le_of_ble_eq_true rfl) (cl_noMat (fun b2 => ?_) (fun b2 => ?_))
  · show jV _ _ jm_p_X9_atOne _ 3 [some (.inr (.inr 0)), some (.inl m), some (.inl y)] [.inl 1] μ
    refine jv_if_neT rfl rfl (by decide) ?_
    refine jv_ldc rfl rfl ?_
    refine jv_ireturn rfl (Or.inl rfl) ?_
    refine ⟨_, rfl, ?_⟩
    refine jv_enter (d := 199) jm_p_X10_atOne [some (.inr (.inr 94)), some (.inl m), some (.inl y)] rfl rfl rfl (Nat.le_of_ble_eq_true rfl) rfl rfl ?_
    refine jv_aload_n rfl rfl rfl (by decide) ?_
    refine jv_iload_n rfl rfl rfl ?_
    refine jv_callV1 rfl rfl rfl rfl ⟨by decide, rfl⟩ (Nat.le_of_ble_eq_true rfl) (mo_isMat (by omega) (fun b2 => ?_) (fun b2 => ?_))
    · show jV _ _ jm_p_X10_atOne _ 3 [some (.inr (.inr 94)), some (.inl m), some (.inl y)] [.inl 1] μ
      refine jv_if_eqF rfl rfl (by decide) ?_
      refine jv_aload_n rfl rfl rfl (by decide) ?_
      refine jv_iload_n rfl rfl rfl ?_
      refine jv_callV1 rfl rfl rfl rfl ⟨by decide, rfl⟩ (Nat.le_of_ble_eq_true rfl) (mo_isMat (by omega) (fun b6 => ?_) (fun b6 => ?_))
      · show jV _ _ jm_p_X10_atOne _ 7 [some (.inr (.inr 94)), some (.inl m), some (.inl y)] [.inl 1] μ
        refine jv_if_neT rfl rfl (by decide) ?_
        refine jv_aload_n rfl rfl rfl (by decide) ?_
        refine jv_iconst rfl rfl ?_
        refine jv_iload_n rfl rfl rfl ?_
        refine jv_iload_n rfl rfl rfl ?_
        refine jv_callV3 rfl rfl rfl rfl ⟨by decide, rfl⟩ (Nat.le_of_ble_eq_true rfl) (mo_areAtOne (by omega) (by omega) (by omega) hwf0 (fun b14 => ?_) (fun b14 => ?_))
        · show jV _ _ jm_p_X10_atOne _ 15 [some (.inr (.inr 94)), some (.inl m), some (.inl y)] [.inl 1] μ
          refine jv_if_eqF rfl rfl (by decide) ?_
          refine jv_iconst rfl rfl ?_
          refine jv_goto rfl rfl ?_
          refine jv_ireturn rfl (Or.inl rfl) ?_
          first | exact ⟨jv_one (by omega), hI⟩ | (exfalso; have h8 := hone m y; simp_all)
        · show jV _ _ jm_p_X10_atOne _ 15 [some (.inr (.inr 94)), some (.inl m), some (.inl y)] [.inl 0] μ
          refine jv_if_eqT rfl rfl (by decide) ?_
          refine jv_iconst rfl rfl ?_
          refine jv_ireturn rfl (Or.inl rfl) ?_
          first | exact ⟨jv_one (by omega), hI⟩ | (exfalso; have h8 := hone m y; simp_all)
      · show jV _ _ jm_p_X10_atOne _ 7 [some (.inr (.inr 94)), some (.inl m), some (.inl y)] [.inl 0] μ
        refine jv_if_neF rfl rfl (by decide) ?_
        refine jv_ldc rfl rfl ?_
        refine jv_ireturn rfl (Or.inl rfl) ?_
        first | exact ⟨jv_one (by omega), hI⟩ | (exfalso; have h8 := hone m y; simp_all)
    · show jV _ _ jm_p_X10_atOne _ 3 [some (.inr (.inr 94)), some (.inl m), some (.inl y)] [.inl 0] μ
      refine jv_if_eqT rfl rfl (by decide) ?_
      refine jv_ldc rfl rfl ?_
      refine jv_ireturn rfl (Or.inl rfl) ?_
      first | exact ⟨jv_one (by omega), hI⟩ | (exfalso; have h8 := hone m y; simp_all)
  · show jV _ _ jm_p_X9_atOne _ 3 [some (.inr (.inr 0)), some (.inl m), some (.inl y)] [.inl 0] μ
    refine jv_if_neF rfl rfl (by decide) ?_
    refine jv_aload_n rfl rfl rfl (by decide) ?_
    refine jv_iload_n rfl rfl rfl ?_
    refine jv_callV1 rfl rfl rfl rfl ⟨by decide, rfl⟩ (Nat.le_of_ble_eq_true rfl) (cl_noMat (fun b6 => ?_) (fun b6 => ?_))
    · show jV _ _ jm_p_X9_atOne _ 7 [some (.inr (.inr 0)), some (.inl m), some (.inl y)] [.inl 1] μ
      refine jv_if_eqF rfl rfl (by decide) ?_
      refine jv_ldc rfl rfl ?_
      refine jv_ireturn rfl (Or.inl rfl) ?_
      refine ⟨_, rfl, ?_⟩
      refine jv_enter (d := 199) jm_p_X10_atOne [some (.inr (.inr 94)), some (.inl m), some (.inl y)] rfl rfl rfl (Nat.le_of_ble_eq_true rfl) rfl rfl ?_
      refine jv_aload_n rfl rfl rfl (by decide) ?_
      refine jv_iload_n rfl rfl rfl ?_
      refine jv_callV1 rfl rfl rfl rfl ⟨by decide, rfl⟩ (Nat.le_of_ble_eq_true rfl) (mo_isMat (by omega) (fun b2 => ?_) (fun b2 => ?_))
      · show jV _ _ jm_p_X10_atOne _ 3 [some (.inr (.inr 94)), some (.inl m), some (.inl y)] [.inl 1] μ
        refine jv_if_eqF rfl rfl (by decide) ?_
        refine jv_aload_n rfl rfl rfl (by decide) ?_
        refine jv_iload_n rfl rfl rfl ?_
        refine jv_callV1 rfl rfl rfl rfl ⟨by decide, rfl⟩ (Nat.le_of_ble_eq_true rfl) (mo_isMat (by omega) (fun b6 => ?_) (fun b6 => ?_))
        · show jV _ _ jm_p_X10_atOne _ 7 [some (.inr (.inr 94)), some (.inl m), some (.inl y)] [.inl 1] μ
          refine jv_if_neT rfl rfl (by decide) ?_
          refine jv_aload_n rfl rfl rfl (by decide) ?_
          refine jv_iconst rfl rfl ?_
          refine jv_iload_n rfl rfl rfl ?_
          refine jv_iload_n rfl rfl rfl ?_
          refine jv_callV3 rfl rfl rfl rfl ⟨by decide, rfl⟩ (Nat.le_of_ble_eq_true rfl) (mo_areAtOne (by omega) (by omega) (by omega) hwf0 (fun b14 => ?_) (fun b14 => ?_))
          · show jV _ _ jm_p_X10_atOne _ 15 [some (.inr (.inr 94)), some (.inl m), some (.inl y)] [.inl 1] μ
            refine jv_if_eqF rfl rfl (by decide) ?_
            refine jv_iconst rfl rfl ?_
            refine jv_goto rfl rfl ?_
            refine jv_ireturn rfl (Or.inl rfl) ?_
            first | exact ⟨jv_one (by omega), hI⟩ | (exfalso; have h8 := hone m y; simp_all)
          · show jV _ _ jm_p_X10_atOne _ 15 [some (.inr (.inr 94)), some (.inl m), some (.inl y)] [.inl 0] μ
            refine jv_if_eqT rfl rfl (by decide) ?_
            refine jv_iconst rfl rfl ?_
            refine jv_ireturn rfl (Or.inl rfl) ?_
            first | exact ⟨jv_one (by omega), hI⟩ | (exfalso; have h8 := hone m y; simp_all)
        · show jV _ _ jm_p_X10_atOne _ 7 [some (.inr (.inr 94)), some (.inl m), some (.inl y)] [.inl 0] μ
          refine jv_if_neF rfl rfl (by decide) ?_
          refine jv_ldc rfl rfl ?_
          refine jv_ireturn rfl (Or.inl rfl) ?_
          first | exact ⟨jv_one (by omega), hI⟩ | (exfalso; have h8 := hone m y; simp_all)
      · show jV _ _ jm_p_X10_atOne _ 3 [some (.inr (.inr 94)), some (.inl m), some (.inl y)] [.inl 0] μ
        refine jv_if_eqT rfl rfl (by decide) ?_
        refine jv_ldc rfl rfl ?_
        refine jv_ireturn rfl (Or.inl rfl) ?_
        first | exact ⟨jv_one (by omega), hI⟩ | (exfalso; have h8 := hone m y; simp_all)
    · show jV _ _ jm_p_X9_atOne _ 7 [some (.inr (.inr 0)), some (.inl m), some (.inl y)] [.inl 0] μ
      refine jv_if_eqT rfl rfl (by decide) ?_
      refine jv_iload_n rfl rfl rfl ?_
      refine jv_iload_n rfl rfl rfl ?_
      refine jv_icmp_eq rfl rfl rfl (fun c12 => ?_) (fun c12 => ?_)
      · refine jv_iconst rfl rfl ?_
        refine jv_ireturn rfl (Or.inl rfl) ?_
        refine ⟨_, rfl, ?_⟩
        refine jv_enter (d := 199) jm_p_X10_atOne [some (.inr (.inr 94)), some (.inl m), some (.inl y)] rfl rfl rfl (Nat.le_of_ble_eq_true rfl) rfl rfl ?_
        refine jv_aload_n rfl rfl rfl (by decide) ?_
        refine jv_iload_n rfl rfl rfl ?_
        refine jv_callV1 rfl rfl rfl rfl ⟨by decide, rfl⟩ (Nat.le_of_ble_eq_true rfl) (mo_isMat (by omega) (fun b2 => ?_) (fun b2 => ?_))
        · show jV _ _ jm_p_X10_atOne _ 3 [some (.inr (.inr 94)), some (.inl m), some (.inl y)] [.inl 1] μ
          refine jv_if_eqF rfl rfl (by decide) ?_
          refine jv_aload_n rfl rfl rfl (by decide) ?_
          refine jv_iload_n rfl rfl rfl ?_
          refine jv_callV1 rfl rfl rfl rfl ⟨by decide, rfl⟩ (Nat.le_of_ble_eq_true rfl) (mo_isMat (by omega) (fun b6 => ?_) (fun b6 => ?_))
          · show jV _ _ jm_p_X10_atOne _ 7 [some (.inr (.inr 94)), some (.inl m), some (.inl y)] [.inl 1] μ
            refine jv_if_neT rfl rfl (by decide) ?_
            refine jv_aload_n rfl rfl rfl (by decide) ?_
            refine jv_iconst rfl rfl ?_
            refine jv_iload_n rfl rfl rfl ?_
            refine jv_iload_n rfl rfl rfl ?_
            refine jv_callV3 rfl rfl rfl rfl ⟨by decide, rfl⟩ (Nat.le_of_ble_eq_true rfl) (mo_areAtOne (by omega) (by omega) (by omega) hwf0 (fun b14 => ?_) (fun b14 => ?_))
            · show jV _ _ jm_p_X10_atOne _ 15 [some (.inr (.inr 94)), some (.inl m), some (.inl y)] [.inl 1] μ
              refine jv_if_eqF rfl rfl (by decide) ?_
              refine jv_iconst rfl rfl ?_
              refine jv_goto rfl rfl ?_
              refine jv_ireturn rfl (Or.inl rfl) ?_
              first | exact ⟨jv_one (by omega), hI⟩ | (exfalso; have h8 := hone m y; simp_all)
            · show jV _ _ jm_p_X10_atOne _ 15 [some (.inr (.inr 94)), some (.inl m), some (.inl y)] [.inl 0] μ
              refine jv_if_eqT rfl rfl (by decide) ?_
              refine jv_iconst rfl rfl ?_
              refine jv_ireturn rfl (Or.inl rfl) ?_
              first | exact ⟨jv_one (by omega), hI⟩ | (exfalso; have h8 := hone m y; simp_all)
          · show jV _ _ jm_p_X10_atOne _ 7 [some (.inr (.inr 94)), some (.inl m), some (.inl y)] [.inl 0] μ
            refine jv_if_neF rfl rfl (by decide) ?_
            refine jv_ldc rfl rfl ?_
            refine jv_ireturn rfl (Or.inl rfl) ?_
            first | exact ⟨jv_one (by omega), hI⟩ | (exfalso; have h8 := hone m y; simp_all)
        · show jV _ _ jm_p_X10_atOne _ 3 [some (.inr (.inr 94)), some (.inl m), some (.inl y)] [.inl 0] μ
          refine jv_if_eqT rfl rfl (by decide) ?_
          refine jv_ldc rfl rfl ?_
          refine jv_ireturn rfl (Or.inl rfl) ?_
          first | exact ⟨jv_one (by omega), hI⟩ | (exfalso; have h8 := hone m y; simp_all)
      · refine jv_aload_n rfl rfl rfl (by decide) ?_
        refine jv_getr (w := 7) rfl rfl rfl ⟨by decide, rfl⟩ rfl rfl ?_
        refine jv_iload_n rfl rfl rfl ?_
        refine jv_iload_n rfl rfl rfl ?_
        refine jv_callV2 rfl rfl rfl rfl ⟨by decide, rfl⟩ (Nat.le_of_ble_eq_true rfl) (cl_areAtOne hmat hrel hwf (by omega) (by omega) (fun b17 => ?_) (fun b17 => ?_))
        · show jV _ _ jm_p_X9_atOne _ 18 [some (.inr (.inr 0)), some (.inl m), some (.inl y)] [.inl 1] μ
          refine jv_if_eqF rfl rfl (by decide) ?_
          refine jv_iconst rfl rfl ?_
          refine jv_goto rfl rfl ?_
          refine jv_ireturn rfl (Or.inl rfl) ?_
          refine ⟨_, rfl, ?_⟩
          refine jv_enter (d := 199) jm_p_X10_atOne [some (.inr (.inr 94)), some (.inl m), some (.inl y)] rfl rfl rfl (Nat.le_of_ble_eq_true rfl) rfl rfl ?_
          refine jv_aload_n rfl rfl rfl (by decide) ?_
          refine jv_iload_n rfl rfl rfl ?_
          refine jv_callV1 rfl rfl rfl rfl ⟨by decide, rfl⟩ (Nat.le_of_ble_eq_true rfl) (mo_isMat (by omega) (fun b2 => ?_) (fun b2 => ?_))
          · show jV _ _ jm_p_X10_atOne _ 3 [some (.inr (.inr 94)), some (.inl m), some (.inl y)] [.inl 1] μ
            refine jv_if_eqF rfl rfl (by decide) ?_
            refine jv_aload_n rfl rfl rfl (by decide) ?_
            refine jv_iload_n rfl rfl rfl ?_
            refine jv_callV1 rfl rfl rfl rfl ⟨by decide, rfl⟩ (Nat.le_of_ble_eq_true rfl) (mo_isMat (by omega) (fun b6 => ?_) (fun b6 => ?_))
            · show jV _ _ jm_p_X10_atOne _ 7 [some (.inr (.inr 94)), some (.inl m), some (.inl y)] [.inl 1] μ
              refine jv_if_neT rfl rfl (by decide) ?_
              refine jv_aload_n rfl rfl rfl (by decide) ?_
              refine jv_iconst rfl rfl ?_
              refine jv_iload_n rfl rfl rfl ?_
              refine jv_iload_n rfl rfl rfl ?_
              refine jv_callV3 rfl rfl rfl rfl ⟨by decide, rfl⟩ (Nat.le_of_ble_eq_true rfl) (mo_areAtOne (by omega) (by omega) (by omega) hwf0 (fun b14 => ?_) (fun b14 => ?_))
              · show jV _ _ jm_p_X10_atOne _ 15 [some (.inr (.inr 94)), some (.inl m), some (.inl y)] [.inl 1] μ
                refine jv_if_eqF rfl rfl (by decide) ?_
                refine jv_iconst rfl rfl ?_
                refine jv_goto rfl rfl ?_
                refine jv_ireturn rfl (Or.inl rfl) ?_
                first | exact ⟨jv_one (by omega), hI⟩ | (exfalso; have h8 := hone m y; simp_all)
              · show jV _ _ jm_p_X10_atOne _ 15 [some (.inr (.inr 94)), some (.inl m), some (.inl y)] [.inl 0] μ
                refine jv_if_eqT rfl rfl (by decide) ?_
                refine jv_iconst rfl rfl ?_
                refine jv_ireturn rfl (Or.inl rfl) ?_
                first | exact ⟨jv_one (by omega), hI⟩ | (exfalso; have h8 := hone m y; simp_all)
            · show jV _ _ jm_p_X10_atOne _ 7 [some (.inr (.inr 94)), some (.inl m), some (.inl y)] [.inl 0] μ
              refine jv_if_neF rfl rfl (by decide) ?_
              refine jv_ldc rfl rfl ?_
              refine jv_ireturn rfl (Or.inl rfl) ?_
              first | exact ⟨jv_one (by omega), hI⟩ | (exfalso; have h8 := hone m y; simp_all)
          · show jV _ _ jm_p_X10_atOne _ 3 [some (.inr (.inr 94)), some (.inl m), some (.inl y)] [.inl 0] μ
            refine jv_if_eqT rfl rfl (by decide) ?_
            refine jv_ldc rfl rfl ?_
            refine jv_ireturn rfl (Or.inl rfl) ?_
            first | exact ⟨jv_one (by omega), hI⟩ | (exfalso; have h8 := hone m y; simp_all)
        · show jV _ _ jm_p_X9_atOne _ 18 [some (.inr (.inr 0)), some (.inl m), some (.inl y)] [.inl 0] μ
          refine jv_if_eqT rfl rfl (by decide) ?_
          refine jv_iconst rfl rfl ?_
          refine jv_ireturn rfl (Or.inl rfl) ?_
          refine ⟨_, rfl, ?_⟩
          refine jv_enter (d := 199) jm_p_X10_atOne [some (.inr (.inr 94)), some (.inl m), some (.inl y)] rfl rfl rfl (Nat.le_of_ble_eq_true rfl) rfl rfl ?_
          refine jv_aload_n rfl rfl rfl (by decide) ?_
          refine jv_iload_n rfl rfl rfl ?_
          refine jv_callV1 rfl rfl rfl rfl ⟨by decide, rfl⟩ (Nat.le_of_ble_eq_true rfl) (mo_isMat (by omega) (fun b2 => ?_) (fun b2 => ?_))
          · show jV _ _ jm_p_X10_atOne _ 3 [some (.inr (.inr 94)), some (.inl m), some (.inl y)] [.inl 1] μ
            refine jv_if_eqF rfl rfl (by decide) ?_
            refine jv_aload_n rfl rfl rfl (by decide) ?_
            refine jv_iload_n rfl rfl rfl ?_
            refine jv_callV1 rfl rfl rfl rfl ⟨by decide, rfl⟩ (Nat.le_of_ble_eq_true rfl) (mo_isMat (by omega) (fun b6 => ?_) (fun b6 => ?_))
            · show jV _ _ jm_p_X10_atOne _ 7 [some (.inr (.inr 94)), some (.inl m), some (.inl y)] [.inl 1] μ
              refine jv_if_neT rfl rfl (by decide) ?_
              refine jv_aload_n rfl rfl rfl (by decide) ?_
              refine jv_iconst rfl rfl ?_
              refine jv_iload_n rfl rfl rfl ?_
              refine jv_iload_n rfl rfl rfl ?_
              refine jv_callV3 rfl rfl rfl rfl ⟨by decide, rfl⟩ (Nat.le_of_ble_eq_true rfl) (mo_areAtOne (by omega) (by omega) (by omega) hwf0 (fun b14 => ?_) (fun b14 => ?_))
              · show jV _ _ jm_p_X10_atOne _ 15 [some (.inr (.inr 94)), some (.inl m), some (.inl y)] [.inl 1] μ
                refine jv_if_eqF rfl rfl (by decide) ?_
                refine jv_iconst rfl rfl ?_
                refine jv_goto rfl rfl ?_
                refine jv_ireturn rfl (Or.inl rfl) ?_
                first | exact ⟨jv_one (by omega), hI⟩ | (exfalso; have h8 := hone m y; simp_all)
              · show jV _ _ jm_p_X10_atOne _ 15 [some (.inr (.inr 94)), some (.inl m), some (.inl y)] [.inl 0] μ
                refine jv_if_eqT rfl rfl (by decide) ?_
                refine jv_iconst rfl rfl ?_
                refine jv_ireturn rfl (Or.inl rfl) ?_
                first | exact ⟨jv_one (by omega), hI⟩ | (exfalso; have h8 := hone m y; simp_all)
            · show jV _ _ jm_p_X10_atOne _ 7 [some (.inr (.inr 94)), some (.inl m), some (.inl y)] [.inl 0] μ
              refine jv_if_neF rfl rfl (by decide) ?_
              refine jv_ldc rfl rfl ?_
              refine jv_ireturn rfl (Or.inl rfl) ?_
              first | exact ⟨jv_one (by omega), hI⟩ | (exfalso; have h8 := hone m y; simp_all)
          · show jV _ _ jm_p_X10_atOne _ 3 [some (.inr (.inr 94)), some (.inl m), some (.inl y)] [.inl 0] μ
            refine jv_if_eqT rfl rfl (by decide) ?_
            refine jv_ldc rfl rfl ?_
            refine jv_ireturn rfl (Or.inl rfl) ?_
            first | exact ⟨jv_one (by omega), hI⟩ | (exfalso; have h8 := hone m y; simp_all)
end
section
/-- the rows' cells have changed, and the two findings, alike -/
theorem jI_rowsC {μ μ' : jm_M} (h : jI μ) (hr : ji_rows μ') (e : ∀ z, z ≠ 0 → z ≠ 2 → z ≠ 3 → z ≠ 4 → z ≠ 94 → z ≠ 97 → z ≠ 98 → z ≠ 99 → μ' z = μ z) (e1 : μ' 94 1 = μ 94 1) (e2 : μ' 94 2 = μ 94 2) (e8 : μ' 94 8 = μ 94 8) (e12 : μ' 94 12 = μ 94 12) (es : μ' 0 11 = μ' 94 10) (ef : μ' 0 10 = μ' 94 9) : jI μ' := by
  have E : ∀ z, 5 ≤ z → z ≤ 103 → z ≠ 94 → z ≠ 97 → z ≠ 98 → z ≠ 99 → μ' z = μ z := fun z a b c1 c2 c3 c4 => e z (by omega) (by omega) (by omega) (by omega) c1 c2 c3 c4
  obtain ⟨a, b, c, d, f, g, ⟨i0, i1⟩, j⟩ := h
  refine ⟨hr, jg_tape (by rw [E 5 (by decide) (by decide) (by decide) (by decide) (by decide) (by decide)]) (E _ (by decide) (by decide) (by decide) (by decide) (by decide) (by decide)) (E _ (by decide) (by decide) (by decide) (by decide) (by decide) (by decide)) e8 b, jg_trace (E _ (by decide) (by decide) (by decide) (by decide) (by decide) (by decide)) (E _ (by decide) (by decide) (by decide) (by decide) (by decide) (by decide)) (E _ (by decide) (by decide) (by decide) (by decide) (by decide) (by decide)) e12 c, ⟨es, ef⟩, jg_town (fun z z0 z1 => E z (by omega) (by omega) (by omega) (by omega) (by omega) (by omega)) (E _ (by decide) (by decide) (by decide) (by decide) (by decide) (by decide)) e1 f,
    jg_idle (E _ (by decide) (by decide) (by decide) (by decide) (by decide) (by decide)) (E _ (by decide) (by decide) (by decide) (by decide) (by decide) (by decide)) (E _ (by decide) (by decide) (by decide) (by decide) (by decide) (by decide)) (E _ (by decide) (by decide) (by decide) (by decide) (by decide) (by decide)) (E _ (by decide) (by decide) (by decide) (by decide) (by decide) (by decide)) (E _ (by decide) (by decide) (by decide) (by decide) (by decide) (by decide)) (E _ (by decide) (by decide) (by decide) (by decide) (by decide) (by decide)) g,
    ⟨jg_img (Or.inl rfl) g (by rw [E 42 (by decide) (by decide) (by decide) (by decide) (by decide) (by decide)]) (by rw [E 96 (by decide) (by decide) (by decide) (by decide) (by decide) (by decide)]) (fun z z0 z1 => E z (by omega) (by omega) (by omega) (by omega) (by omega) (by omega)) (fun j _ _ => by rw [E 95 (by decide) (by decide) (by decide) (by decide) (by decide) (by decide)]) i0, jg_img (Or.inr rfl) g (by rw [E 42 (by decide) (by decide) (by decide) (by decide) (by decide) (by decide)]) (by rw [E 96 (by decide) (by decide) (by decide) (by decide) (by decide) (by decide)]) (fun z z0 z1 => E z (by omega) (by omega) (by omega) (by omega) (by omega) (by omega)) (fun j _ _ => by rw [E 95 (by decide) (by decide) (by decide) (by decide) (by decide) (by decide)]) i1⟩,
    jg_past e2 (E _ (by decide) (by decide) (by decide) (by decide) (by decide) (by decide)) (E _ (by decide) (by decide) (by decide) (by decide) (by decide) (by decide)) (E _ (by decide) (by decide) (by decide) (by decide) (by decide) (by decide)) j⟩
/-- the tapes have changed alike -/
theorem jI_tapeC {μ μ' : jm_M} (h : jI μ) (hr : ji_tape μ') (e : ∀ z, z ≠ 5 → z ≠ 6 → z ≠ 94 → z ≠ 100 → μ' z = μ z) (e1 : μ' 94 1 = μ 94 1) (e2 : μ' 94 2 = μ 94 2) (e9 : μ' 94 9 = μ 94 9) (e10 : μ' 94 10 = μ 94 10) (e12 : μ' 94 12 = μ 94 12) : jI μ' := by
  have E : ∀ z, z ≤ 4 ∨ (7 ≤ z ∧ z ≤ 103) → z ≠ 94 → z ≠ 100 → μ' z = μ z := fun z a b c => e z (by omega) (by omega) b c
  obtain ⟨a, b, c, ⟨d1, d2⟩, f, g, ⟨i0, i1⟩, j⟩ := h
  refine ⟨jg_rows (E _ (by decide) (by decide) (by decide)) (E _ (by decide) (by decide) (by decide)) (E _ (by decide) (by decide) (by decide)) (E _ (by decide) (by decide) (by decide)) (E _ (by decide) (by decide) (by decide)) (E _ (by decide) (by decide) (by decide)) a, hr, jg_trace (E _ (by decide) (by decide) (by decide)) (E _ (by decide) (by decide) (by decide)) (E _ (by decide) (by decide) (by decide)) e12 c, ⟨by rw [E 0 (by decide) (by decide) (by decide), e10]; exact d1, by rw [E 0 (by decide) (by decide) (by decide), e9]; exact d2⟩, jg_town (fun z z0 z1 => E z (by omega) (by omega) (by omega)) (E _ (by decide) (by decide) (by decide)) e1 f,
    jg_idle (E _ (by decide) (by decide) (by decide)) (E _ (by decide) (by decide) (by decide)) (E _ (by decide) (by decide) (by decide)) (E _ (by decide) (by decide) (by decide)) (E _ (by decide) (by decide) (by decide)) (E _ (by decide) (by decide) (by decide)) (E _ (by decide) (by decide) (by decide)) g,
    ⟨jg_img (Or.inl rfl) g (by rw [E 42 (by decide) (by decide) (by decide)]) (by rw [E 96 (by decide) (by decide) (by decide)]) (fun z z0 z1 => E z (by omega) (by omega) (by omega)) (fun j _ _ => by rw [E 95 (by decide) (by decide) (by decide)]) i0, jg_img (Or.inr rfl) g (by rw [E 42 (by decide) (by decide) (by decide)]) (by rw [E 96 (by decide) (by decide) (by decide)]) (fun z z0 z1 => E z (by omega) (by omega) (by omega)) (fun j _ _ => by rw [E 95 (by decide) (by decide) (by decide)]) i1⟩,
    jg_past e2 (E _ (by decide) (by decide) (by decide)) (E _ (by decide) (by decide) (by decide)) (E _ (by decide) (by decide) (by decide)) j⟩
theorem jm_off1 {μ : jm_M} {a z : Int} {f : Int → Int} (h : z ≠ a) : jm_uc μ a f z = μ z := jm_uc_ne h
end
section
set_option maxRecDepth 10000 in
theorem cl_isFull {X : jm_X} {d : Nat} {Q : jv_P} {μ : jm_M}  (k1 : 100 ≤ μ 5 1 → Q [.inl 1] μ) (k0 : ¬ (100 ≤ μ 5 1) → Q [.inl 0] μ) : cV X (d + 1) 57 [.inr (.inr 5)] μ Q := by
  refine jv_enter (d := d + 0) jm_p_X6_isFull [some (.inr (.inr 5))] rfl rfl rfl (Nat.le_of_ble_eq_true rfl) rfl rfl ?_
  refine jv_aload_n rfl rfl rfl (by decide) ?_
  refine jv_geti rfl rfl rfl ⟨by decide, rfl⟩ (by decide) ?_
  refine jv_bipush rfl rfl ?_
  refine jv_icmp_lt rfl rfl rfl (fun c3 => ?_) (fun c3 => ?_)
  · refine jv_iconst rfl rfl ?_
    refine jv_ireturn rfl (Or.inr ⟨rfl, by decide⟩) ?_
    exact k0 (by omega)
  · refine jv_iconst rfl rfl ?_
    refine jv_goto rfl rfl ?_
    refine jv_ireturn rfl (Or.inr ⟨rfl, by decide⟩) ?_
    exact k1 (by omega)
set_option maxRecDepth 10000 in
theorem cl_append {X : jm_X} {d : Nat} {Q : jv_P} {μ : jm_M} {y : Int} (h : 0 ≤ μ 5 1 ∧ μ 5 1 < 100) (k : ∀ μ2, μ2 = jm_uc (jm_uc μ 6 (jm_u1 (μ 6) (μ 5 1) y)) 5 (jm_u1 (μ 5) 1 (μ 5 1 + 1)) → Q [.inl (μ 5 1 + 1)] μ2) : cV X (d + 1) 59 [.inr (.inr 5), .inl y] μ Q := by
  refine jv_enter (d := d + 0) jm_p_X6_append [some (.inr (.inr 5)), some (.inl y)] rfl rfl rfl (Nat.le_of_ble_eq_true rfl) rfl rfl ?_
  refine jv_aload_n rfl rfl rfl (by decide) ?_
  refine jv_geti rfl rfl rfl ⟨by decide, rfl⟩ (by decide) ?_
  refine jv_bipush rfl rfl ?_
  refine jv_icmp_geF rfl rfl (by omega) ?_
  refine jv_aload_n rfl rfl rfl (by decide) ?_
  refine jv_getr (w := 6) rfl rfl rfl ⟨by decide, rfl⟩ rfl rfl ?_
  refine jv_aload_n rfl rfl rfl (by decide) ?_
  refine jv_geti rfl rfl rfl ⟨by decide, rfl⟩ (by decide) ?_
  refine jv_iload_n rfl rfl rfl ?_
  refine jv_iastore rfl rfl rfl (by decide) ⟨by omega, by omega⟩ (fun μ9 eμ9 => ?_)
  refine jv_aload_n rfl rfl rfl (by decide) ?_
  refine jv_dupr rfl rfl ?_
  refine jv_geti rfl rfl rfl ⟨by decide, rfl⟩ (by decide) ?_
  refine jv_iconst rfl rfl ?_
  refine jv_iadd rfl rfl (by rw [eμ9]; exact ⟨by show _ ≤ μ 5 1 + 1; omega, by show μ 5 1 + 1 ≤ _; omega⟩) ?_
  refine jv_puti rfl rfl rfl ⟨by decide, rfl⟩ (Or.inl rfl) (fun μ15 eμ15 => ?_)
  refine jv_aload_n rfl rfl rfl (by decide) ?_
  refine jv_geti rfl rfl rfl ⟨by decide, rfl⟩ (by decide) ?_
  refine jv_ireturn rfl (Or.inl rfl) ?_
  have e1 : μ15 = jm_uc (jm_uc μ 6 (jm_u1 (μ 6) (μ 5 1) y)) 5 (jm_u1 (μ 5) 1 (μ 5 1 + 1)) := by rw [eμ15, eμ9]; rfl
  have e2 : μ15 5 1 = μ 5 1 + 1 := by rw [e1]; rfl
  rw [e2]
  exact k _ e1
set_option maxRecDepth 10000 in
set_option maxHeartbeats 1000000 in
theorem pr_feed {X : jm_X} {y : Int} (r_y : jm_r y) : jp X 92 147 [.inl y] := by
  intro μ hI
  obtain ⟨⟨hit, hlan⟩, ⟨ht0, ht1, ht2⟩, ⟨hr0, hr1, hr2⟩, ⟨hst, hfa⟩, htown, hidle, himg, hpast⟩ := id hI
  obtain ⟨hwf, hcf, hkd, hmat, hrel, hh01, hhot, hnc⟩ := id htown
  obtain ⟨⟨r0, r1, r2, r3⟩, rm, rz, rc⟩ := id hrel
  obtain ⟨w0, w1, w2, w3, w4, w6, w7, w8⟩ := id hwf
  refine jv_enter (d := 199) jm_p_X9_feed [some (.inr (.inr 0)), some (.inl y)] rfl rfl rfl (Nat.le_of_ble_eq_true rfl) rfl rfl ?_
  refine jv_iload_n rfl rfl rfl ?_
  refine jv_if_lt rfl rfl rfl (fun c1 => ?_) (fun c1 => ?_)
  · refine jv_ldc rfl rfl ?_
    refine jv_ireturn rfl (Or.inl rfl) ?_
    refine ⟨_, rfl, ?_⟩
    
    refine jv_enter (d := 199) jm_p_X10_feed [some (.inr (.inr 94)), some (.inl y)] rfl rfl rfl (Nat.le_of_ble_eq_true rfl) rfl rfl ?_
    refine jv_iload_n rfl rfl rfl ?_
    refine jv_i2l rfl rfl ?_
    refine jv_lconst rfl rfl ?_
    refine jv_ldc2_w rfl rfl ?_
    refine jv_callS3 rfl rfl rfl (Nat.le_of_ble_eq_true rfl) (mo_in (fun b4 => ?_) (fun b4 => ?_))
    · first
      | (exfalso; omega)
      | skip
        show jV _ _ jm_p_X10_feed _ 5 [some (.inr (.inr 94)), some (.inl y)] [.inl 1] μ
        refine jv_if_neT rfl rfl (by decide) ?_
        refine jv_aload_n rfl rfl rfl (by decide) ?_
        refine jv_geti rfl rfl rfl ⟨by decide, rfl⟩ (by decide) ?_
        refine jv_bipush rfl rfl ?_
        refine jv_icmp_ne rfl rfl rfl (fun c11 => ?_) (fun c11 => ?_)
        · first
          | (exfalso; omega)
          | skip
            refine jv_aload_n rfl rfl rfl (by decide) ?_
            refine jv_getr (w := 100) rfl rfl rfl ⟨by decide, rfl⟩ rfl rfl ?_
            refine jv_aload_n rfl rfl rfl (by decide) ?_
            refine jv_geti rfl rfl rfl ⟨by decide, rfl⟩ (by decide) ?_
            refine jv_iload_n rfl rfl rfl ?_
            refine jv_iastore rfl rfl rfl (by decide) ⟨by omega, by omega⟩ (fun μ19 eμ19 => ?_)
            refine jv_aload_n rfl rfl rfl (by decide) ?_
            refine jv_dupr rfl rfl ?_
            refine jv_geti rfl rfl rfl ⟨by decide, rfl⟩ (by decide) ?_
            refine jv_iconst rfl rfl ?_
            refine jv_iadd rfl rfl (by rw [eμ19]; exact ⟨by show _ ≤ μ16 94 8 + 1; omega, by show μ16 94 8 + 1 ≤ _; omega⟩) ?_
            refine jv_puti rfl rfl rfl ⟨by decide, rfl⟩ (Or.inl rfl) (fun μ25 eμ25 => ?_)
            refine jv_aload_n rfl rfl rfl (by decide) ?_
            refine jv_geti rfl rfl rfl ⟨by decide, rfl⟩ (by decide) ?_
            refine jv_ireturn rfl (Or.inl rfl) ?_
            exact ⟨jv_one (by omega), hI⟩
        · first
          | (exfalso; omega)
          | skip
            refine jv_ldc rfl rfl ?_
            refine jv_ireturn rfl (Or.inl rfl) ?_
            exact ⟨jv_one (by omega), hI⟩
    · first
      | (exfalso; omega)
      | skip
        show jV _ _ jm_p_X10_feed _ 5 [some (.inr (.inr 94)), some (.inl y)] [.inl 0] μ
        refine jv_if_neF rfl rfl (by decide) ?_
        refine jv_ldc rfl rfl ?_
        refine jv_ireturn rfl (Or.inl rfl) ?_
        exact ⟨jv_one (by omega), hI⟩
  · refine jv_iload_n rfl rfl rfl ?_
    refine jv_sipush rfl rfl ?_
    refine jv_icmp_le rfl rfl rfl (fun c4 => ?_) (fun c4 => ?_)
    · refine jv_aload_n rfl rfl rfl (by decide) ?_
      refine jv_getr (w := 5) rfl rfl rfl ⟨by decide, rfl⟩ rfl rfl ?_
      refine jv_callV0 rfl rfl rfl rfl ⟨by decide, rfl⟩ (Nat.le_of_ble_eq_true rfl) (cl_isFull (fun b9 => ?_) (fun b9 => ?_))
      · show jV _ _ jm_p_X9_feed _ 10 [some (.inr (.inr 0)), some (.inl y)] [.inl 1] μ
        refine jv_if_eqF rfl rfl (by decide) ?_
        refine jv_ldc rfl rfl ?_
        refine jv_ireturn rfl (Or.inl rfl) ?_
        refine ⟨_, rfl, ?_⟩
        
        refine jv_enter (d := 199) jm_p_X10_feed [some (.inr (.inr 94)), some (.inl y)] rfl rfl rfl (Nat.le_of_ble_eq_true rfl) rfl rfl ?_
        refine jv_iload_n rfl rfl rfl ?_
        refine jv_i2l rfl rfl ?_
        refine jv_lconst rfl rfl ?_
        refine jv_ldc2_w rfl rfl ?_
        refine jv_callS3 rfl rfl rfl (Nat.le_of_ble_eq_true rfl) (mo_in (fun b4 => ?_) (fun b4 => ?_))
        · first
          | (exfalso; omega)
          | skip
            show jV _ _ jm_p_X10_feed _ 5 [some (.inr (.inr 94)), some (.inl y)] [.inl 1] μ
            refine jv_if_neT rfl rfl (by decide) ?_
            refine jv_aload_n rfl rfl rfl (by decide) ?_
            refine jv_geti rfl rfl rfl ⟨by decide, rfl⟩ (by decide) ?_
            refine jv_bipush rfl rfl ?_
            refine jv_icmp_ne rfl rfl rfl (fun c11 => ?_) (fun c11 => ?_)
            · first
              | (exfalso; omega)
              | skip
                refine jv_aload_n rfl rfl rfl (by decide) ?_
                refine jv_getr (w := 100) rfl rfl rfl ⟨by decide, rfl⟩ rfl rfl ?_
                refine jv_aload_n rfl rfl rfl (by decide) ?_
                refine jv_geti rfl rfl rfl ⟨by decide, rfl⟩ (by decide) ?_
                refine jv_iload_n rfl rfl rfl ?_
                refine jv_iastore rfl rfl rfl (by decide) ⟨by omega, by omega⟩ (fun μ19 eμ19 => ?_)
                refine jv_aload_n rfl rfl rfl (by decide) ?_
                refine jv_dupr rfl rfl ?_
                refine jv_geti rfl rfl rfl ⟨by decide, rfl⟩ (by decide) ?_
                refine jv_iconst rfl rfl ?_
                refine jv_iadd rfl rfl (by rw [eμ19]; exact ⟨by show _ ≤ μ16 94 8 + 1; omega, by show μ16 94 8 + 1 ≤ _; omega⟩) ?_
                refine jv_puti rfl rfl rfl ⟨by decide, rfl⟩ (Or.inl rfl) (fun μ25 eμ25 => ?_)
                refine jv_aload_n rfl rfl rfl (by decide) ?_
                refine jv_geti rfl rfl rfl ⟨by decide, rfl⟩ (by decide) ?_
                refine jv_ireturn rfl (Or.inl rfl) ?_
                exact ⟨jv_one (by omega), hI⟩
            · first
              | (exfalso; omega)
              | skip
                refine jv_ldc rfl rfl ?_
                refine jv_ireturn rfl (Or.inl rfl) ?_
                exact ⟨jv_one (by omega), hI⟩
        · first
          | (exfalso; omega)
          | skip
            show jV _ _ jm_p_X10_feed _ 5 [some (.inr (.inr 94)), some (.inl y)] [.inl 0] μ
            refine jv_if_neF rfl rfl (by decide) ?_
            refine jv_ldc rfl rfl ?_
            refine jv_ireturn rfl (Or.inl rfl) ?_
            exact ⟨jv_one (by omega), hI⟩
      · show jV _ _ jm_p_X9_feed _ 10 [some (.inr (.inr 0)), some (.inl y)] [.inl 0] μ
        refine jv_if_eqT rfl rfl (by decide) ?_
        refine jv_aload_n rfl rfl rfl (by decide) ?_
        refine jv_getr (w := 5) rfl rfl rfl ⟨by decide, rfl⟩ rfl rfl ?_
        refine jv_iload_n rfl rfl rfl ?_
        refine jv_callV1 rfl rfl rfl rfl ⟨by decide, rfl⟩ (Nat.le_of_ble_eq_true rfl) (cl_append (by omega) (fun μ16 eμ16 => ?_))
        show jV _ _ jm_p_X9_feed _ 17 [some (.inr (.inr 0)), some (.inl y)] [.inl (μ 5 1 + 1)] μ16
        refine jv_ireturn rfl (Or.inl rfl) ?_
        refine ⟨_, rfl, ?_⟩
        have f0 : μ16 94 8 = μ 94 8 := by rw [eμ16]; rfl
        refine jv_enter (d := 199) jm_p_X10_feed [some (.inr (.inr 94)), some (.inl y)] rfl rfl rfl (Nat.le_of_ble_eq_true rfl) rfl rfl ?_
        refine jv_iload_n rfl rfl rfl ?_
        refine jv_i2l rfl rfl ?_
        refine jv_lconst rfl rfl ?_
        refine jv_ldc2_w rfl rfl ?_
        refine jv_callS3 rfl rfl rfl (Nat.le_of_ble_eq_true rfl) (mo_in (fun b4 => ?_) (fun b4 => ?_))
        · first
          | (exfalso; omega)
          | skip
            show jV _ _ jm_p_X10_feed _ 5 [some (.inr (.inr 94)), some (.inl y)] [.inl 1] μ16
            refine jv_if_neT rfl rfl (by decide) ?_
            refine jv_aload_n rfl rfl rfl (by decide) ?_
            refine jv_geti rfl rfl rfl ⟨by decide, rfl⟩ (by decide) ?_
            refine jv_bipush rfl rfl ?_
            refine jv_icmp_ne rfl rfl rfl (fun c11 => ?_) (fun c11 => ?_)
            · first
              | (exfalso; omega)
              | skip
                refine jv_aload_n rfl rfl rfl (by decide) ?_
                refine jv_getr (w := 100) rfl rfl rfl ⟨by decide, rfl⟩ rfl rfl ?_
                refine jv_aload_n rfl rfl rfl (by decide) ?_
                refine jv_geti rfl rfl rfl ⟨by decide, rfl⟩ (by decide) ?_
                refine jv_iload_n rfl rfl rfl ?_
                refine jv_iastore rfl rfl rfl (by decide) ⟨by omega, by omega⟩ (fun μ19 eμ19 => ?_)
                refine jv_aload_n rfl rfl rfl (by decide) ?_
                refine jv_dupr rfl rfl ?_
                refine jv_geti rfl rfl rfl ⟨by decide, rfl⟩ (by decide) ?_
                refine jv_iconst rfl rfl ?_
                refine jv_iadd rfl rfl (by rw [eμ19]; exact ⟨by show _ ≤ μ16 94 8 + 1; omega, by show μ16 94 8 + 1 ≤ _; omega⟩) ?_
                refine jv_puti rfl rfl rfl ⟨by decide, rfl⟩ (Or.inl rfl) (fun μ25 eμ25 => ?_)
                refine jv_aload_n rfl rfl rfl (by decide) ?_
                refine jv_geti rfl rfl rfl ⟨by decide, rfl⟩ (by decide) ?_
                refine jv_ireturn rfl (Or.inl rfl) ?_
                have e0 : μ16 = jm_uc (jm_uc μ 6 (jm_u1 (μ 6) (μ 5 1) y)) 5 (jm_u1 (μ 5) 1 (μ 5 1 + 1)) := eμ16
                have e1 : μ25 = jm_uc (jm_uc μ16 100 (jm_u1 (μ16 100) (μ16 94 8) y)) 94 (jm_u1 (μ16 94) 8 (μ16 94 8 + 1)) := by rw [eμ25, eμ19]; rfl
                have e2 : μ25 94 8 = μ 94 8 + 1 := by rw [e1, e0]; rfl
                have e3 : μ25 5 1 = μ 5 1 + 1 := by rw [e1, e0]; rfl
                refine ⟨jv_one (by omega), jI_tapeC hI ⟨by omega, by omega, fun j j0 j1 => ?_⟩ (fun z a b c d => ?_) ?_ ?_ ?_ ?_ ?_⟩
                · have e6 : μ25 6 j = jm_u1 (μ 6) (μ 5 1) y j := by rw [e1, e0]; rfl
                  have e7 : μ25 100 j = jm_u1 (μ 100) (μ 94 8) y j := by rw [e1, e0]; rfl
                  rw [e6, e7, ht0]
                  unfold jm_u1
                  split
                  · omega
                  · exact ht2 j j0 (by omega)
                · rw [e1, e0, jm_off1 c, jm_off1 d, jm_off1 a, jm_off1 b]
                all_goals (rw [e1, e0]; rfl)
            · first
              | (exfalso; omega)
              | skip
                refine jv_ldc rfl rfl ?_
                refine jv_ireturn rfl (Or.inl rfl) ?_
                exact ⟨jv_one (by omega), hI⟩
        · first
          | (exfalso; omega)
          | skip
            show jV _ _ jm_p_X10_feed _ 5 [some (.inr (.inr 94)), some (.inl y)] [.inl 0] μ16
            refine jv_if_neF rfl rfl (by decide) ?_
            refine jv_ldc rfl rfl ?_
            refine jv_ireturn rfl (Or.inl rfl) ?_
            exact ⟨jv_one (by omega), hI⟩
    · refine jv_ldc rfl rfl ?_
      refine jv_ireturn rfl (Or.inl rfl) ?_
      refine ⟨_, rfl, ?_⟩
      
      refine jv_enter (d := 199) jm_p_X10_feed [some (.inr (.inr 94)), some (.inl y)] rfl rfl rfl (Nat.le_of_ble_eq_true rfl) rfl rfl ?_
      refine jv_iload_n rfl rfl rfl ?_
      refine jv_i2l rfl rfl ?_
      refine jv_lconst rfl rfl ?_
      refine jv_ldc2_w rfl rfl ?_
      refine jv_callS3 rfl rfl rfl (Nat.le_of_ble_eq_true rfl) (mo_in (fun b4 => ?_) (fun b4 => ?_))
      · first
        | (exfalso; omega)
        | skip
          show jV _ _ jm_p_X10_feed _ 5 [some (.inr (.inr 94)), some (.inl y)] [.inl 1] μ
          refine jv_if_neT rfl rfl (by decide) ?_
          refine jv_aload_n rfl rfl rfl (by decide) ?_
          refine jv_geti rfl rfl rfl ⟨by decide, rfl⟩ (by decide) ?_
          refine jv_bipush rfl rfl ?_
          refine jv_icmp_ne rfl rfl rfl (fun c11 => ?_) (fun c11 => ?_)
          · first
            | (exfalso; omega)
            | skip
              refine jv_aload_n rfl rfl rfl (by decide) ?_
              refine jv_getr (w := 100) rfl rfl rfl ⟨by decide, rfl⟩ rfl rfl ?_
              refine jv_aload_n rfl rfl rfl (by decide) ?_
              refine jv_geti rfl rfl rfl ⟨by decide, rfl⟩ (by decide) ?_
              refine jv_iload_n rfl rfl rfl ?_
              refine jv_iastore rfl rfl rfl (by decide) ⟨by omega, by omega⟩ (fun μ19 eμ19 => ?_)
              refine jv_aload_n rfl rfl rfl (by decide) ?_
              refine jv_dupr rfl rfl ?_
              refine jv_geti rfl rfl rfl ⟨by decide, rfl⟩ (by decide) ?_
              refine jv_iconst rfl rfl ?_
              refine jv_iadd rfl rfl (by rw [eμ19]; exact ⟨by show _ ≤ μ16 94 8 + 1; omega, by show μ16 94 8 + 1 ≤ _; omega⟩) ?_
              refine jv_puti rfl rfl rfl ⟨by decide, rfl⟩ (Or.inl rfl) (fun μ25 eμ25 => ?_)
              refine jv_aload_n rfl rfl rfl (by decide) ?_
              refine jv_geti rfl rfl rfl ⟨by decide, rfl⟩ (by decide) ?_
              refine jv_ireturn rfl (Or.inl rfl) ?_
              exact ⟨jv_one (by omega), hI⟩
          · first
            | (exfalso; omega)
            | skip
              refine jv_ldc rfl rfl ?_
              refine jv_ireturn rfl (Or.inl rfl) ?_
              exact ⟨jv_one (by omega), hI⟩
      · first
        | (exfalso; omega)
        | skip
          show jV _ _ jm_p_X10_feed _ 5 [some (.inr (.inr 94)), some (.inl y)] [.inl 0] μ
          refine jv_if_neF rfl rfl (by decide) ?_
          refine jv_ldc rfl rfl ?_
          refine jv_ireturn rfl (Or.inl rfl) ?_
          exact ⟨jv_one (by omega), hI⟩
end
