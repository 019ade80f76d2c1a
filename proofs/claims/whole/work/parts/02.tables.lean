/-! tables as numbers: methods, pool entries; the last number of a row is the place of its word in lw_tbl -/
def jm_cn : List String := ["MatNations$Asks", "MatNations$Comer", "MatNations$Foretold", "MatNations$History", "MatNations$House", "MatNations$Mat", "MatNations$Reader", "MatNations$Rows", "MatNations$Walk", "MatNations", "MatNationsModel", "MatNationsLaw", "java/lang/Integer", "java/lang/Math"]
/-- name, code, locals, answer, class, parameters, kind (0 an object's, 1 static, 2 a constructor), cells and slots that it makes, the places of its words -/
abbrev jm_I : Type := MethodName × ByteArray × Nat × Option FieldType × Nat × Nat × Nat × Nat × Nat × List Nat
def jm_i_X0_init : jm_I := (yX0_init, cX0_init, 1, none, 0, 0, 2, 1, 16, [311, 79, 310])
def jm_i_X0_answer : jm_I := (yX0_answer, cX0_answer, 4, some .int, 0, 3, 0, 0, 0, [843, 79, 841, 842])
def jm_i_X0_traced : jm_I := (yX0_traced, cX0_traced, 2, some .int, 0, 1, 0, 0, 0, [866, 79, 864, 865])
def jm_i_X0_bodyOf : jm_I := (yX0_bodyOf, cX0_bodyOf, 3, some .int, 0, 2, 1, 0, 0, [846, 79, 845])
def jm_i_X0_leaveTrace : jm_I := (yX0_leaveTrace, cX0_leaveTrace, 2, none, 0, 1, 0, 0, 0, [858, 79, 857, 22])
def jm_i_X0_give : jm_I := (yX0_give, cX0_give, 6, some .int, 0, 4, 0, 0, 0, [854, 79, 853, 21])
def jm_i_X1_init : jm_I := (yX1_init, cX1_init, 1, none, 1, 0, 2, 0, 0, [161, 75, 160])
def jm_i_X1_takeOver : jm_I := (yX1_takeOver, cX1_takeOver, 2, none, 1, 1, 0, 0, 0, [501, 75, 499, 500])
def jm_i_X1_wipes : jm_I := (yX1_wipes, cX1_wipes, 4, some .int, 1, 3, 0, 0, 0, [549, 75, 547, 548])
def jm_i_X1_isOf : jm_I := (yX1_isOf, cX1_isOf, 4, some .boolean, 1, 1, 0, 0, 0, [833, 75, 831, 832])
def jm_i_X2_init : jm_I := (yX2_init, cX2_init, 1, none, 2, 0, 2, 8, 56, [282, 78, 281])
def jm_i_X2_cleanOnes : jm_I := (yX2_cleanOnes, cX2_cleanOnes, 4, some .int, 2, 1, 0, 0, 0, [641, 78, 639, 640])
def jm_i_X2_told : jm_I := (yX2_told, cX2_told, 3, some .int, 2, 2, 0, 0, 0, [664, 78, 662, 663])
def jm_i_X2_seekOrder : jm_I := (yX2_seekOrder, cX2_seekOrder, 2, none, 2, 1, 0, 0, 0, [651, 78, 649, 650])
def jm_i_X2_tryOrders : jm_I := (yX2_tryOrders, cX2_tryOrders, 7, none, 2, 4, 0, 0, 0, [655, 78, 654, 13])
def jm_i_X2_seekLaying : jm_I := (yX2_seekLaying, cX2_seekLaying, 2, none, 2, 1, 0, 0, 0, [673, 78, 671, 672])
def jm_i_X2_tryLayings : jm_I := (yX2_tryLayings, cX2_tryLayings, 5, none, 2, 3, 0, 0, 0, [677, 78, 676, 15])
def jm_i_X2_keepTried : jm_I := (yX2_keepTried, cX2_keepTried, 3, none, 2, 2, 0, 0, 0, [659, 78, 658, 14])
def jm_i_X2_fewestBeaten : jm_I := (yX2_fewestBeaten, cX2_fewestBeaten, 7, some .int, 2, 3, 0, 0, 0, [701, 78, 699, 700])
def jm_i_X2_carriedIfBeaten : jm_I := (yX2_carriedIfBeaten, cX2_carriedIfBeaten, 5, some .int, 2, 3, 0, 0, 0, [711, 78, 710, 16])
def jm_i_X2_uniters : jm_I := (yX2_uniters, cX2_uniters, 7, some .int, 2, 3, 0, 0, 0, [735, 78, 733, 734])
def jm_i_X2_bindsTo : jm_I := (yX2_bindsTo, cX2_bindsTo, 7, some .boolean, 2, 4, 0, 0, 0, [739, 78, 738, 17])
def jm_i_X2_culprits : jm_I := (yX2_culprits, cX2_culprits, 7, some .int, 2, 4, 0, 0, 0, [751, 78, 749, 750])
def jm_i_X2_tryAs : jm_I := (yX2_tryAs, cX2_tryAs, 2, none, 2, 1, 0, 0, 0, [767, 78, 765, 766])
def jm_i_X2_fitting : jm_I := (yX2_fitting, cX2_fitting, 8, some .int, 2, 5, 0, 0, 0, [772, 78, 770, 771])
def jm_i_X2_giveTrait : jm_I := (yX2_giveTrait, cX2_giveTrait, 3, none, 2, 2, 0, 0, 0, [780, 78, 779, 20])
def jm_i_X2_isSoBehind : jm_I := (yX2_isSoBehind, cX2_isSoBehind, 7, some .boolean, 2, 5, 0, 0, 0, [755, 78, 754, 19])
def jm_i_X2_likelihood : jm_I := (yX2_likelihood, cX2_likelihood, 8, some .int, 2, 4, 0, 0, 0, [788, 78, 786, 787])
def jm_i_X2_weight : jm_I := (yX2_weight, cX2_weight, 5, some .int, 2, 3, 1, 0, 0, [791, 78, 790])
def jm_i_X2_commonDivisor : jm_I := (yX2_commonDivisor, cX2_commonDivisor, 6, some .int, 2, 2, 1, 0, 0, [794, 78, 793])
def jm_i_X2_years : jm_I := (yX2_years, cX2_years, 9, some .int, 2, 4, 0, 0, 0, [803, 78, 801, 802])
def jm_i_X3_init : jm_I := (yX3_init, cX3_init, 1, none, 3, 0, 2, 1, 960, [244, 76, 243])
def jm_i_X3_isEmpty : jm_I := (yX3_isEmpty, cX3_isEmpty, 1, some .boolean, 3, 0, 0, 0, 0, [590, 76, 588, 589])
def jm_i_X3_size : jm_I := (yX3_size, cX3_size, 1, some .int, 3, 0, 0, 0, 0, [889, 76, 887, 888])
def jm_i_X3_forget : jm_I := (yX3_forget, cX3_forget, 1, none, 3, 0, 0, 0, 0, [505, 76, 503, 504])
def jm_i_X3_keep : jm_I := (yX3_keep, cX3_keep, 2, none, 3, 1, 0, 0, 0, [521, 76, 519, 520])
def jm_i_X3_takeBack : jm_I := (yX3_takeBack, cX3_takeBack, 2, some .int, 3, 1, 0, 0, 0, [594, 76, 592, 593])
def jm_i_X4_init : jm_I := (yX4_init, cX4_init, 2, none, 4, 0, 2, 16, 72, [132, 73, 131])
def jm_i_X4_clear : jm_I := (yX4_clear, cX4_clear, 2, none, 4, 0, 0, 0, 0, [441, 73, 439, 440])
def jm_i_X4_takeOver : jm_I := (yX4_takeOver, cX4_takeOver, 3, none, 4, 1, 0, 0, 0, [492, 73, 490, 491])
def jm_i_X4_writeCells : jm_I := (yX4_writeCells, cX4_writeCells, 5, none, 4, 2, 0, 0, 0, [525, 73, 523, 524])
def jm_i_X4_readCells : jm_I := (yX4_readCells, cX4_readCells, 5, none, 4, 2, 0, 0, 0, [598, 73, 596, 597])
def jm_i_X4_allComers : jm_I := (yX4_allComers, cX4_allComers, 1, some .int, 4, 0, 0, 0, 0, [681, 73, 679, 680])
def jm_i_X4_receive : jm_I := (yX4_receive, cX4_receive, 5, some .int, 4, 2, 0, 0, 0, [533, 73, 531, 532])
def jm_i_X4_swapWithNext : jm_I := (yX4_swapWithNext, cX4_swapWithNext, 3, none, 4, 1, 0, 0, 0, [568, 73, 566, 567])
def jm_i_X4_rainOnAll : jm_I := (yX4_rainOnAll, cX4_rainOnAll, 4, some .int, 4, 1, 0, 0, 0, [581, 73, 579, 580])
def jm_i_X4_areAtOne : jm_I := (yX4_areAtOne, cX4_areAtOne, 3, some .boolean, 4, 2, 0, 0, 0, [623, 73, 621, 622])
def jm_i_X4_pactCount : jm_I := (yX4_pactCount, cX4_pactCount, 4, some .int, 4, 0, 0, 0, 0, [721, 73, 719, 720])
def jm_i_X4_firstPact : jm_I := (yX4_firstPact, cX4_firstPact, 3, some .int, 4, 0, 0, 0, 0, [726, 73, 724, 725])
def jm_i_X4_lyingInAll : jm_I := (yX4_lyingInAll, cX4_lyingInAll, 3, some .int, 4, 0, 0, 0, 0, [880, 73, 878, 879])
def jm_i_X4_comings : jm_I := (yX4_comings, cX4_comings, 3, some .int, 4, 0, 0, 0, 0, [885, 73, 883, 884])
def jm_i_X5_init : jm_I := (yX5_init, cX5_init, 1, none, 5, 0, 2, 1, 6, [141, 74, 140])
def jm_i_X5_lying : jm_I := (yX5_lying, cX5_lying, 3, some .int, 5, 0, 0, 0, 0, [541, 74, 539, 540])
def jm_i_X5_master : jm_I := (yX5_master, cX5_master, 3, some .int, 5, 0, 0, 0, 0, [610, 74, 608, 609])
def jm_i_X5_empty : jm_I := (yX5_empty, cX5_empty, 2, none, 5, 0, 0, 0, 0, [445, 74, 443, 444])
def jm_i_X5_takeOver : jm_I := (yX5_takeOver, cX5_takeOver, 2, none, 5, 1, 0, 0, 0, [496, 74, 494, 495])
def jm_i_X6_init : jm_I := (yX6_init, cX6_init, 1, none, 6, 0, 2, 1, 100, [113, 72, 112])
def jm_i_X6_isFull : jm_I := (yX6_isFull, cX6_isFull, 1, some .boolean, 6, 0, 0, 0, 0, [424, 72, 422, 423])
def jm_i_X6_size : jm_I := (yX6_size, cX6_size, 1, some .int, 6, 0, 0, 0, 0, [893, 72, 891, 892])
def jm_i_X6_append : jm_I := (yX6_append, cX6_append, 2, some .int, 6, 1, 0, 0, 0, [429, 72, 427, 428])
def jm_i_X6_place : jm_I := (yX6_place, cX6_place, 1, some .int, 6, 0, 0, 0, 0, [488, 72, 486, 487])
def jm_i_X6_readInto : jm_I := (yX6_readInto, cX6_readInto, 2, some .int, 6, 1, 0, 0, 0, [437, 72, 435, 436])
def jm_i_X6_readLaw : jm_I := (yX6_readLaw, cX6_readLaw, 2, some .boolean, 6, 1, 0, 0, 0, [449, 72, 448, 2])
def jm_i_X6_readMats : jm_I := (yX6_readMats, cX6_readMats, 3, some .boolean, 6, 1, 0, 0, 0, [472, 72, 471, 7])
def jm_i_X6_readComers : jm_I := (yX6_readComers, cX6_readComers, 4, some .boolean, 6, 1, 0, 0, 0, [476, 72, 475, 8])
def jm_i_X6_readTraits : jm_I := (yX6_readTraits, cX6_readTraits, 2, some .boolean, 6, 1, 0, 0, 0, [483, 72, 482, 9])
def jm_i_X6_sortOf : jm_I := (yX6_sortOf, cX6_sortOf, 1, some .int, 6, 1, 1, 0, 0, [479, 72, 478])
def jm_i_X6_seen : jm_I := (yX6_seen, cX6_seen, 1, some .int, 6, 0, 0, 0, 0, [457, 72, 456, 4])
def jm_i_X6_refuse : jm_I := (yX6_refuse, cX6_refuse, 2, some .boolean, 6, 1, 0, 0, 0, [461, 72, 460, 5])
def jm_i_X6_takeByte : jm_I := (yX6_takeByte, cX6_takeByte, 2, some .boolean, 6, 1, 0, 0, 0, [453, 72, 452, 3])
def jm_i_X6_takeNumber : jm_I := (yX6_takeNumber, cX6_takeNumber, 5, some .int, 6, 2, 0, 0, 0, [465, 72, 464, 6])
def jm_i_X6_isFigure : jm_I := (yX6_isFigure, cX6_isFigure, 1, some .boolean, 6, 1, 1, 0, 0, [468, 72, 467])
def jm_i_X7_init : jm_I := (yX7_init, cX7_init, 2, none, 7, 0, 2, 3, 336, [96, 71, 95])
def jm_i_X7_isMissing : jm_I := (yX7_isMissing, cX7_isMissing, 2, some .boolean, 7, 1, 0, 0, 0, [385, 71, 383, 384])
def jm_i_X7_sameLane : jm_I := (yX7_sameLane, cX7_sameLane, 3, some .boolean, 7, 2, 0, 0, 0, [401, 71, 399, 400])
def jm_i_X7_reaches : jm_I := (yX7_reaches, cX7_reaches, 4, some .boolean, 7, 3, 0, 0, 0, [389, 71, 387, 388])
def jm_i_X7_item : jm_I := (yX7_item, cX7_item, 3, some .int, 7, 2, 0, 0, 0, [759, 71, 757, 758])
def jm_i_X7_make : jm_I := (yX7_make, cX7_make, 5, none, 7, 3, 0, 0, 0, [373, 71, 371, 372])
def jm_i_X7_put : jm_I := (yX7_put, cX7_put, 5, some .int, 7, 3, 0, 0, 0, [393, 71, 391, 392])
def jm_i_X7_carryOver : jm_I := (yX7_carryOver, cX7_carryOver, 6, none, 7, 5, 0, 0, 0, [405, 71, 403, 404])
def jm_i_X7_remove : jm_I := (yX7_remove, cX7_remove, 3, some .int, 7, 1, 0, 0, 0, [416, 71, 414, 415])
def jm_i_X7_present : jm_I := (yX7_present, cX7_present, 3, some .int, 7, 0, 0, 0, 0, [875, 71, 873, 874])
def jm_i_X8_init : jm_I := (yX8_init, cX8_init, 1, none, 8, 0, 2, 3, 12, [261, 77, 260])
def jm_i_X8_begin : jm_I := (yX8_begin, cX8_begin, 3, none, 8, 1, 0, 0, 0, [537, 77, 535, 536])
def jm_i_X8_goOver : jm_I := (yX8_goOver, cX8_goOver, 7, some .int, 8, 2, 0, 0, 0, [545, 77, 543, 544])
def jm_i_X8_allGoOver : jm_I := (yX8_allGoOver, cX8_allGoOver, 5, some .int, 8, 2, 0, 0, 0, [685, 77, 683, 684])
def jm_i_X8_lyingInAll : jm_I := (yX8_lyingInAll, cX8_lyingInAll, 4, some .int, 8, 1, 0, 0, 0, [810, 77, 808, 809])
def jm_i_X9_init : jm_I := (yX9_init, cX9_init, 2, none, 9, 0, 2, 93, 1817, [88, 70, 87])
def jm_i_X9_row : jm_I := (yX9_row, cX9_row, 4, some .int, 9, 3, 0, 0, 0, [360, 70, 358, 359])
def jm_i_X9_set : jm_I := (yX9_set, cX9_set, 4, some .int, 9, 3, 0, 0, 0, [381, 70, 379, 380])
def jm_i_X9_copy : jm_I := (yX9_copy, cX9_copy, 6, some .int, 9, 5, 0, 0, 0, [397, 70, 395, 396])
def jm_i_X9_drop : jm_I := (yX9_drop, cX9_drop, 2, some .int, 9, 1, 0, 0, 0, [412, 70, 410, 411])
def jm_i_X9_feed : jm_I := (yX9_feed, cX9_feed, 2, some .int, 9, 1, 0, 0, 0, [420, 70, 418, 419])
def jm_i_X9_hotel : jm_I := (yX9_hotel, cX9_hotel, 2, some .int, 9, 0, 0, 0, 0, [433, 70, 431, 432])
def jm_i_X9_fault : jm_I := (yX9_fault, cX9_fault, 1, some .int, 9, 0, 0, 0, 0, [509, 70, 507, 508])
def jm_i_X9_come : jm_I := (yX9_come, cX9_come, 2, some .int, 9, 1, 0, 0, 0, [513, 70, 511, 512])
def jm_i_X9_beat : jm_I := (yX9_beat, cX9_beat, 3, some .int, 9, 1, 0, 0, 0, [554, 70, 552, 553])
def jm_i_X9_change : jm_I := (yX9_change, cX9_change, 2, some .int, 9, 1, 0, 0, 0, [564, 70, 562, 563])
def jm_i_X9_rain : jm_I := (yX9_rain, cX9_rain, 2, some .int, 9, 1, 0, 0, 0, [572, 70, 570, 571])
def jm_i_X9_undo : jm_I := (yX9_undo, cX9_undo, 1, some .int, 9, 0, 0, 0, 0, [586, 70, 584, 585])
def jm_i_X9_comer : jm_I := (yX9_comer, cX9_comer, 4, some .int, 9, 2, 0, 0, 0, [602, 70, 600, 601])
def jm_i_X9_mat : jm_I := (yX9_mat, cX9_mat, 4, some .int, 9, 2, 0, 0, 0, [606, 70, 604, 605])
def jm_i_X9_soil : jm_I := (yX9_soil, cX9_soil, 3, some .int, 9, 2, 0, 0, 0, [615, 70, 613, 614])
def jm_i_X9_atOne : jm_I := (yX9_atOne, cX9_atOne, 3, some .int, 9, 2, 0, 0, 0, [619, 70, 617, 618])
def jm_i_X9_leaves : jm_I := (yX9_leaves, cX9_leaves, 3, some .int, 9, 2, 0, 0, 0, [627, 70, 625, 626])
def jm_i_X9_carries : jm_I := (yX9_carries, cX9_carries, 2, some .int, 9, 1, 0, 0, 0, [633, 70, 631, 632])
def jm_i_X9_clean : jm_I := (yX9_clean, cX9_clean, 1, some .int, 9, 0, 0, 0, 0, [637, 70, 635, 636])
def jm_i_X9_order : jm_I := (yX9_order, cX9_order, 2, some .int, 9, 1, 0, 0, 0, [647, 70, 645, 646])
def jm_i_X9_laying : jm_I := (yX9_laying, cX9_laying, 2, some .int, 9, 1, 0, 0, 0, [669, 70, 667, 668])
def jm_i_X9_beating : jm_I := (yX9_beating, cX9_beating, 5, some .int, 9, 3, 0, 0, 0, [690, 70, 688, 689])
def jm_i_X9_pacts : jm_I := (yX9_pacts, cX9_pacts, 2, some .int, 9, 1, 0, 0, 0, [717, 70, 715, 716])
def jm_i_X9_could : jm_I := (yX9_could, cX9_could, 3, some .int, 9, 2, 0, 0, 0, [731, 70, 729, 730])
def jm_i_X9_who : jm_I := (yX9_who, cX9_who, 4, some .int, 9, 2, 0, 0, 0, [743, 70, 741, 742])
def jm_i_X9_fits : jm_I := (yX9_fits, cX9_fits, 6, some .int, 9, 4, 0, 0, 0, [763, 70, 761, 762])
def jm_i_X9_absent : jm_I := (yX9_absent, cX9_absent, 4, some .int, 9, 3, 0, 0, 0, [784, 70, 782, 783])
def jm_i_X9_drawn : jm_I := (yX9_drawn, cX9_drawn, 4, some .int, 9, 3, 0, 0, 0, [798, 70, 796, 797])
def jm_i_X9_image : jm_I := (yX9_image, cX9_image, 2, some .int, 9, 1, 0, 0, 0, [814, 70, 812, 813])
def jm_i_X9_restore : jm_I := (yX9_restore, cX9_restore, 2, some .int, 9, 1, 0, 0, 0, [821, 70, 819, 820])
def jm_i_X9_kind : jm_I := (yX9_kind, cX9_kind, 2, some .int, 9, 1, 0, 0, 0, [825, 70, 823, 824])
def jm_i_X9_as : jm_I := (yX9_as, cX9_as, 3, some .int, 9, 2, 0, 0, 0, [829, 70, 827, 828])
def jm_i_X9_ask : jm_I := (yX9_ask, cX9_ask, 3, some .int, 9, 2, 0, 0, 0, [839, 70, 837, 838])
def jm_i_X9_trace : jm_I := (yX9_trace, cX9_trace, 2, some .int, 9, 1, 0, 0, 0, [862, 70, 860, 861])
def jm_i_X9_count : jm_I := (yX9_count, cX9_count, 2, some .int, 9, 1, 0, 0, 0, [871, 70, 869, 870])
def jm_i_X9_status : jm_I := (yX9_status, cX9_status, 1, some .int, 9, 0, 0, 0, 0, [897, 70, 895, 896])
def jm_i_X9_noRow : jm_I := (yX9_noRow, cX9_noRow, 1, some .boolean, 9, 1, 1, 0, 0, [363, 70, 362])
def jm_i_X9_noImage : jm_I := (yX9_noImage, cX9_noImage, 1, some .boolean, 9, 1, 1, 0, 0, [817, 70, 816])
def jm_i_X9_noCarried : jm_I := (yX9_noCarried, cX9_noCarried, 1, some .boolean, 9, 1, 1, 0, 0, [694, 70, 693])
def jm_i_X9_neither : jm_I := (yX9_neither, cX9_neither, 1, some .boolean, 9, 1, 1, 0, 0, [697, 70, 696])
def jm_i_X9_noHotel : jm_I := (yX9_noHotel, cX9_noHotel, 1, some .boolean, 9, 0, 0, 0, 0, [576, 70, 575, 12])
def jm_i_X9_noComer : jm_I := (yX9_noComer, cX9_noComer, 2, some .boolean, 9, 1, 0, 0, 0, [517, 70, 516, 10])
def jm_i_X9_noMat : jm_I := (yX9_noMat, cX9_noMat, 2, some .boolean, 9, 1, 0, 0, 0, [558, 70, 557, 11])
def jm_i_X9_found : jm_I := (yX9_found, cX9_found, 2, some .int, 9, 1, 0, 0, 0, [368, 70, 367, 0])
def jm_i_X9_unfound : jm_I := (yX9_unfound, cX9_unfound, 2, some .int, 9, 1, 0, 0, 0, [377, 70, 376, 1])
def jm_i_X9_matRowFinding : jm_I := (yX9_matRowFinding, cX9_matRowFinding, 3, some .int, 9, 2, 0, 0, 0, [747, 70, 746, 18])
def jm_i_X10_init : jm_I := (yX10_init, cX10_init, 1, none, 10, 0, 2, 9, 2202, [902, 80, 901])
def jm_i_X10_in : jm_I := (yX10_in, cX10_in, 6, some .boolean, 10, 3, 1, 0, 0, [969, 80, 968])
def jm_i_X10_has : jm_I := (yX10_has, cX10_has, 2, some .boolean, 10, 2, 1, 0, 0, [1200, 80, 1199])
def jm_i_X10_bits : jm_I := (yX10_bits, cX10_bits, 3, some .int, 10, 1, 1, 0, 0, [1208, 80, 1207])
def jm_i_X10_find : jm_I := (yX10_find, cX10_find, 2, some .int, 10, 1, 0, 0, 0, [975, 80, 974, 23])
def jm_i_X10_well : jm_I := (yX10_well, cX10_well, 2, some .int, 10, 1, 0, 0, 0, [980, 80, 979, 24])
def jm_i_X10_isRow : jm_I := (yX10_isRow, cX10_isRow, 1, some .boolean, 10, 1, 1, 0, 0, [965, 80, 964])
def jm_i_X10_row : jm_I := (yX10_row, cX10_row, 5, some .int, 10, 3, 0, 0, 0, [962, 80, 960, 961])
def jm_i_X10_narrow : jm_I := (yX10_narrow, cX10_narrow, 2, some .int, 10, 2, 1, 0, 0, [987, 80, 986])
def jm_i_X10_set : jm_I := (yX10_set, cX10_set, 4, some .int, 10, 3, 0, 0, 0, [984, 80, 982, 983])
def jm_i_X10_isSpan : jm_I := (yX10_isSpan, cX10_isSpan, 4, some .boolean, 10, 3, 0, 0, 0, [995, 80, 994, 25])
def jm_i_X10_copy : jm_I := (yX10_copy, cX10_copy, 9, some .int, 10, 5, 0, 0, 0, [991, 80, 989, 990])
def jm_i_X10_drop : jm_I := (yX10_drop, cX10_drop, 3, some .int, 10, 1, 0, 0, 0, [999, 80, 997, 998])
def jm_i_X10_feed : jm_I := (yX10_feed, cX10_feed, 2, some .int, 10, 1, 0, 0, 0, [1003, 80, 1001, 1002])
def jm_i_X10_isLetter : jm_I := (yX10_isLetter, cX10_isLetter, 2, some .boolean, 10, 1, 0, 0, 0, [1025, 80, 1024, 29])
def jm_i_X10_isFigure : jm_I := (yX10_isFigure, cX10_isFigure, 2, some .boolean, 10, 1, 0, 0, 0, [1037, 80, 1036, 32])
def jm_i_X10_refuse : jm_I := (yX10_refuse, cX10_refuse, 2, some .boolean, 10, 1, 0, 0, 0, [1029, 80, 1028, 30])
def jm_i_X10_sign : jm_I := (yX10_sign, cX10_sign, 2, some .boolean, 10, 1, 0, 0, 0, [1021, 80, 1020, 28])
def jm_i_X10_readsNumber : jm_I := (yX10_readsNumber, cX10_readsNumber, 4, some .boolean, 10, 2, 0, 0, 0, [1033, 80, 1032, 31])
def jm_i_X10_readsLaw : jm_I := (yX10_readsLaw, cX10_readsLaw, 1, some .boolean, 10, 0, 0, 0, 0, [1017, 80, 1016, 27])
def jm_i_X10_readsMat : jm_I := (yX10_readsMat, cX10_readsMat, 2, some .boolean, 10, 0, 0, 0, 0, [1043, 80, 1042, 33])
def jm_i_X10_kindOfLetter : jm_I := (yX10_kindOfLetter, cX10_kindOfLetter, 1, some .int, 10, 1, 1, 0, 0, [1050, 80, 1049])
def jm_i_X10_readsComer : jm_I := (yX10_readsComer, cX10_readsComer, 2, some .boolean, 10, 0, 0, 0, 0, [1054, 80, 1053, 35])
def jm_i_X10_isSort : jm_I := (yX10_isSort, cX10_isSort, 1, some .boolean, 10, 0, 0, 0, 0, [1047, 80, 1046, 34])
def jm_i_X10_reads : jm_I := (yX10_reads, cX10_reads, 2, some .boolean, 10, 0, 0, 0, 0, [1013, 80, 1012, 26])
def jm_i_X10_hotel : jm_I := (yX10_hotel, cX10_hotel, 2, some .int, 10, 0, 0, 0, 0, [1009, 80, 1007, 1008])
def jm_i_X10_fault : jm_I := (yX10_fault, cX10_fault, 1, some .int, 10, 0, 0, 0, 0, [1063, 80, 1061, 1062])
def jm_i_X10_copyTown : jm_I := (yX10_copyTown, cX10_copyTown, 4, none, 10, 2, 0, 0, 0, [1059, 80, 1058, 36])
def jm_i_X10_keepPast : jm_I := (yX10_keepPast, cX10_keepPast, 2, none, 10, 0, 0, 0, 0, [1080, 80, 1079, 38])
def jm_i_X10_undo : jm_I := (yX10_undo, cX10_undo, 1, some .int, 10, 0, 0, 0, 0, [1067, 80, 1065, 1066])
def jm_i_X10_isComer : jm_I := (yX10_isComer, cX10_isComer, 2, some .boolean, 10, 1, 0, 0, 0, [1076, 80, 1075, 37])
def jm_i_X10_isMat : jm_I := (yX10_isMat, cX10_isMat, 2, some .boolean, 10, 1, 0, 0, 0, [1100, 80, 1099, 42])
def jm_i_X10_liesOn : jm_I := (yX10_liesOn, cX10_liesOn, 5, some .int, 10, 2, 0, 0, 0, [1092, 80, 1091, 41])
def jm_i_X10_onAll : jm_I := (yX10_onAll, cX10_onAll, 4, some .int, 10, 1, 0, 0, 0, [1249, 80, 1248, 57])
def jm_i_X10_leavesOn : jm_I := (yX10_leavesOn, cX10_leavesOn, 8, some .int, 10, 4, 0, 0, 0, [1088, 80, 1087, 40])
def jm_i_X10_comesAt : jm_I := (yX10_comesAt, cX10_comesAt, 6, some .int, 10, 2, 0, 0, 0, [1084, 80, 1083, 39])
def jm_i_X10_beatsAt : jm_I := (yX10_beatsAt, cX10_beatsAt, 5, some .int, 10, 2, 0, 0, 0, [1104, 80, 1103, 43])
def jm_i_X10_areAtOne : jm_I := (yX10_areAtOne, cX10_areAtOne, 6, some .boolean, 10, 3, 0, 0, 0, [1143, 80, 1142, 46])
def jm_i_X10_come : jm_I := (yX10_come, cX10_come, 2, some .int, 10, 1, 0, 0, 0, [1072, 80, 1070, 1071])
def jm_i_X10_beat : jm_I := (yX10_beat, cX10_beat, 2, some .int, 10, 1, 0, 0, 0, [1096, 80, 1094, 1095])
def jm_i_X10_swapPlaces : jm_I := (yX10_swapPlaces, cX10_swapPlaces, 4, none, 10, 2, 0, 0, 0, [1112, 80, 1111, 44])
def jm_i_X10_change : jm_I := (yX10_change, cX10_change, 3, some .int, 10, 1, 0, 0, 0, [1108, 80, 1106, 1107])
def jm_i_X10_rain : jm_I := (yX10_rain, cX10_rain, 5, some .int, 10, 1, 0, 0, 0, [1116, 80, 1114, 1115])
def jm_i_X10_comer : jm_I := (yX10_comer, cX10_comer, 3, some .int, 10, 2, 0, 0, 0, [1121, 80, 1119, 1120])
def jm_i_X10_masterOf : jm_I := (yX10_masterOf, cX10_masterOf, 6, some .int, 10, 1, 0, 0, 0, [1129, 80, 1128, 45])
def jm_i_X10_mat : jm_I := (yX10_mat, cX10_mat, 3, some .int, 10, 2, 0, 0, 0, [1125, 80, 1123, 1124])
def jm_i_X10_soil : jm_I := (yX10_soil, cX10_soil, 3, some .int, 10, 2, 0, 0, 0, [1134, 80, 1132, 1133])
def jm_i_X10_atOne : jm_I := (yX10_atOne, cX10_atOne, 3, some .int, 10, 2, 0, 0, 0, [1139, 80, 1137, 1138])
def jm_i_X10_layTried : jm_I := (yX10_layTried, cX10_layTried, 1, none, 10, 0, 0, 0, 0, [1155, 80, 1154, 48])
def jm_i_X10_carriesIf : jm_I := (yX10_carriesIf, cX10_carriesIf, 2, some .int, 10, 1, 0, 0, 0, [1151, 80, 1150, 47])
def jm_i_X10_leaves : jm_I := (yX10_leaves, cX10_leaves, 3, some .int, 10, 2, 0, 0, 0, [1147, 80, 1145, 1146])
def jm_i_X10_carries : jm_I := (yX10_carries, cX10_carries, 2, some .int, 10, 1, 0, 0, 0, [1159, 80, 1157, 1158])
def jm_i_X10_clean : jm_I := (yX10_clean, cX10_clean, 3, some .int, 10, 0, 0, 0, 0, [1163, 80, 1161, 1162])
def jm_i_X10_layLine : jm_I := (yX10_layLine, cX10_layLine, 3, none, 10, 1, 0, 0, 0, [1172, 80, 1171, 49])
def jm_i_X10_swapLine : jm_I := (yX10_swapLine, cX10_swapLine, 4, none, 10, 2, 0, 0, 0, [1184, 80, 1183, 52])
def jm_i_X10_takeLine : jm_I := (yX10_takeLine, cX10_takeLine, 2, none, 10, 0, 0, 0, 0, [1176, 80, 1175, 50])
def jm_i_X10_nextLine : jm_I := (yX10_nextLine, cX10_nextLine, 6, some .boolean, 10, 1, 0, 0, 0, [1180, 80, 1179, 51])
def jm_i_X10_comeAll : jm_I := (yX10_comeAll, cX10_comeAll, 4, some .int, 10, 1, 0, 0, 0, [1197, 80, 1196, 54])
def jm_i_X10_order : jm_I := (yX10_order, cX10_order, 7, some .int, 10, 1, 0, 0, 0, [1167, 80, 1165, 1166])
def jm_i_X10_layMats : jm_I := (yX10_layMats, cX10_layMats, 3, none, 10, 0, 0, 0, 0, [1193, 80, 1192, 53])
def jm_i_X10_laying : jm_I := (yX10_laying, cX10_laying, 6, some .int, 10, 1, 0, 0, 0, [1188, 80, 1186, 1187])
def jm_i_X10_beating : jm_I := (yX10_beating, cX10_beating, 7, some .int, 10, 3, 0, 0, 0, [1204, 80, 1202, 1203])
def jm_i_X10_pacts : jm_I := (yX10_pacts, cX10_pacts, 6, some .int, 10, 1, 0, 0, 0, [1212, 80, 1210, 1211])
def jm_i_X10_could : jm_I := (yX10_could, cX10_could, 5, some .int, 10, 2, 0, 0, 0, [1216, 80, 1214, 1215])
def jm_i_X10_noItems : jm_I := (yX10_noItems, cX10_noItems, 3, some .int, 10, 2, 0, 0, 0, [1224, 80, 1223, 55])
def jm_i_X10_isSo : jm_I := (yX10_isSo, cX10_isSo, 6, some .boolean, 10, 3, 0, 0, 0, [1228, 80, 1227, 56])
def jm_i_X10_who : jm_I := (yX10_who, cX10_who, 6, some .int, 10, 2, 0, 0, 0, [1220, 80, 1218, 1219])
def jm_i_X10_fits : jm_I := (yX10_fits, cX10_fits, 11, some .int, 10, 4, 0, 0, 0, [1232, 80, 1230, 1231])
def jm_i_X10_absent : jm_I := (yX10_absent, cX10_absent, 9, some .int, 10, 3, 0, 0, 0, [1236, 80, 1234, 1235])
def jm_i_X10_drawn : jm_I := (yX10_drawn, cX10_drawn, 8, some .int, 10, 3, 0, 0, 0, [1241, 80, 1239, 1240])
def jm_i_X10_image : jm_I := (yX10_image, cX10_image, 2, some .int, 10, 1, 0, 0, 0, [1253, 80, 1251, 1252])
def jm_i_X10_restore : jm_I := (yX10_restore, cX10_restore, 2, some .int, 10, 1, 0, 0, 0, [1257, 80, 1255, 1256])
def jm_i_X10_kind : jm_I := (yX10_kind, cX10_kind, 2, some .int, 10, 1, 0, 0, 0, [1261, 80, 1259, 1260])
def jm_i_X10_isOf : jm_I := (yX10_isOf, cX10_isOf, 4, some .boolean, 10, 2, 0, 0, 0, [1269, 80, 1268, 58])
def jm_i_X10_as : jm_I := (yX10_as, cX10_as, 3, some .int, 10, 2, 0, 0, 0, [1265, 80, 1263, 1264])
def jm_i_X10_begin : jm_I := (yX10_begin, cX10_begin, 2, none, 10, 1, 0, 0, 0, [1281, 80, 1280, 60])
def jm_i_X10_lentSize : jm_I := (yX10_lentSize, cX10_lentSize, 2, some .int, 10, 1, 0, 0, 0, [1289, 80, 1288, 62])
def jm_i_X10_wiperSize : jm_I := (yX10_wiperSize, cX10_wiperSize, 3, some .int, 10, 1, 0, 0, 0, [1285, 80, 1284, 61])
def jm_i_X10_stamperSize : jm_I := (yX10_stamperSize, cX10_stamperSize, 2, some .int, 10, 1, 0, 0, 0, [1305, 80, 1304, 66])
def jm_i_X10_sizeOf : jm_I := (yX10_sizeOf, cX10_sizeOf, 2, some .int, 10, 1, 0, 0, 0, [1277, 80, 1276, 59])
def jm_i_X10_lentMark : jm_I := (yX10_lentMark, cX10_lentMark, 2, some .int, 10, 1, 0, 0, 0, [1301, 80, 1300, 65])
def jm_i_X10_wiperMark : jm_I := (yX10_wiperMark, cX10_wiperMark, 2, some .int, 10, 1, 0, 0, 0, [1297, 80, 1296, 64])
def jm_i_X10_mark : jm_I := (yX10_mark, cX10_mark, 2, some .int, 10, 1, 0, 0, 0, [1293, 80, 1292, 63])
def jm_i_X10_stamperMark : jm_I := (yX10_stamperMark, cX10_stamperMark, 3, some .int, 10, 1, 0, 0, 0, [1309, 80, 1308, 67])
def jm_i_X10_ask : jm_I := (yX10_ask, cX10_ask, 3, some .int, 10, 2, 0, 0, 0, [1273, 80, 1271, 1272])
def jm_i_X10_trace : jm_I := (yX10_trace, cX10_trace, 2, some .int, 10, 1, 0, 0, 0, [1313, 80, 1311, 1312])
def jm_i_X10_comings : jm_I := (yX10_comings, cX10_comings, 3, some .int, 10, 0, 0, 0, 0, [1321, 80, 1320, 68])
def jm_i_X10_count : jm_I := (yX10_count, cX10_count, 4, some .int, 10, 1, 0, 0, 0, [1317, 80, 1315, 1316])
def jm_i_X10_status : jm_I := (yX10_status, cX10_status, 1, some .int, 10, 0, 0, 0, 0, [1325, 80, 1323, 1324])
def jm_i_J6_bitCount_0f7a4 : jm_I := (yJ6_bitCount_0f7a4, cJ6_bitCount_0f7a4, 1, some .int, 12, 1, 1, 0, 0, [704, 83, 703])
def jm_i_L_law : jm_I := (yL_law, cL_law, 4, some .boolean, 11, 1, 1, 0, 0, [])
def jm_mi : List jm_I := [jm_i_X0_init, jm_i_X0_answer, jm_i_X0_traced, jm_i_X0_bodyOf, jm_i_X0_leaveTrace, jm_i_X0_give, jm_i_X1_init, jm_i_X1_takeOver, jm_i_X1_wipes, jm_i_X1_isOf, jm_i_X2_init, jm_i_X2_cleanOnes, jm_i_X2_told, jm_i_X2_seekOrder, jm_i_X2_tryOrders, jm_i_X2_seekLaying, jm_i_X2_tryLayings, jm_i_X2_keepTried, jm_i_X2_fewestBeaten, jm_i_X2_carriedIfBeaten, jm_i_X2_uniters, jm_i_X2_bindsTo, jm_i_X2_culprits, jm_i_X2_tryAs, jm_i_X2_fitting, jm_i_X2_giveTrait, jm_i_X2_isSoBehind, jm_i_X2_likelihood, jm_i_X2_weight, jm_i_X2_commonDivisor, jm_i_X2_years, jm_i_X3_init, jm_i_X3_isEmpty, jm_i_X3_size, jm_i_X3_forget, jm_i_X3_keep, jm_i_X3_takeBack, jm_i_X4_init, jm_i_X4_clear, jm_i_X4_takeOver, jm_i_X4_writeCells, jm_i_X4_readCells, jm_i_X4_allComers, jm_i_X4_receive, jm_i_X4_swapWithNext, jm_i_X4_rainOnAll, jm_i_X4_areAtOne, jm_i_X4_pactCount, jm_i_X4_firstPact, jm_i_X4_lyingInAll, jm_i_X4_comings, jm_i_X5_init, jm_i_X5_lying, jm_i_X5_master, jm_i_X5_empty, jm_i_X5_takeOver, jm_i_X6_init, jm_i_X6_isFull, jm_i_X6_size, jm_i_X6_append, jm_i_X6_place, jm_i_X6_readInto, jm_i_X6_readLaw, jm_i_X6_readMats, jm_i_X6_readComers, jm_i_X6_readTraits, jm_i_X6_sortOf, jm_i_X6_seen, jm_i_X6_refuse, jm_i_X6_takeByte, jm_i_X6_takeNumber, jm_i_X6_isFigure, jm_i_X7_init, jm_i_X7_isMissing, jm_i_X7_sameLane, jm_i_X7_reaches, jm_i_X7_item, jm_i_X7_make, jm_i_X7_put, jm_i_X7_carryOver, jm_i_X7_remove, jm_i_X7_present, jm_i_X8_init, jm_i_X8_begin, jm_i_X8_goOver, jm_i_X8_allGoOver, jm_i_X8_lyingInAll, jm_i_X9_init, jm_i_X9_row, jm_i_X9_set, jm_i_X9_copy, jm_i_X9_drop, jm_i_X9_feed, jm_i_X9_hotel, jm_i_X9_fault, jm_i_X9_come, jm_i_X9_beat, jm_i_X9_change, jm_i_X9_rain, jm_i_X9_undo, jm_i_X9_comer, jm_i_X9_mat, jm_i_X9_soil, jm_i_X9_atOne, jm_i_X9_leaves, jm_i_X9_carries, jm_i_X9_clean, jm_i_X9_order, jm_i_X9_laying, jm_i_X9_beating, jm_i_X9_pacts, jm_i_X9_could, jm_i_X9_who, jm_i_X9_fits, jm_i_X9_absent, jm_i_X9_drawn, jm_i_X9_image, jm_i_X9_restore, jm_i_X9_kind, jm_i_X9_as, jm_i_X9_ask, jm_i_X9_trace, jm_i_X9_count, jm_i_X9_status, jm_i_X9_noRow, jm_i_X9_noImage, jm_i_X9_noCarried, jm_i_X9_neither, jm_i_X9_noHotel, jm_i_X9_noComer, jm_i_X9_noMat, jm_i_X9_found, jm_i_X9_unfound, jm_i_X9_matRowFinding, jm_i_X10_init, jm_i_X10_in, jm_i_X10_has, jm_i_X10_bits, jm_i_X10_find, jm_i_X10_well, jm_i_X10_isRow, jm_i_X10_row, jm_i_X10_narrow, jm_i_X10_set, jm_i_X10_isSpan, jm_i_X10_copy, jm_i_X10_drop, jm_i_X10_feed, jm_i_X10_isLetter, jm_i_X10_isFigure, jm_i_X10_refuse, jm_i_X10_sign, jm_i_X10_readsNumber, jm_i_X10_readsLaw, jm_i_X10_readsMat, jm_i_X10_kindOfLetter, jm_i_X10_readsComer, jm_i_X10_isSort, jm_i_X10_reads, jm_i_X10_hotel, jm_i_X10_fault, jm_i_X10_copyTown, jm_i_X10_keepPast, jm_i_X10_undo, jm_i_X10_isComer, jm_i_X10_isMat, jm_i_X10_liesOn, jm_i_X10_onAll, jm_i_X10_leavesOn, jm_i_X10_comesAt, jm_i_X10_beatsAt, jm_i_X10_areAtOne, jm_i_X10_come, jm_i_X10_beat, jm_i_X10_swapPlaces, jm_i_X10_change, jm_i_X10_rain, jm_i_X10_comer, jm_i_X10_masterOf, jm_i_X10_mat, jm_i_X10_soil, jm_i_X10_atOne, jm_i_X10_layTried, jm_i_X10_carriesIf, jm_i_X10_leaves, jm_i_X10_carries, jm_i_X10_clean, jm_i_X10_layLine, jm_i_X10_swapLine, jm_i_X10_takeLine, jm_i_X10_nextLine, jm_i_X10_comeAll, jm_i_X10_order, jm_i_X10_layMats, jm_i_X10_laying, jm_i_X10_beating, jm_i_X10_pacts, jm_i_X10_could, jm_i_X10_noItems, jm_i_X10_isSo, jm_i_X10_who, jm_i_X10_fits, jm_i_X10_absent, jm_i_X10_drawn, jm_i_X10_image, jm_i_X10_restore, jm_i_X10_kind, jm_i_X10_isOf, jm_i_X10_as, jm_i_X10_begin, jm_i_X10_lentSize, jm_i_X10_wiperSize, jm_i_X10_stamperSize, jm_i_X10_sizeOf, jm_i_X10_lentMark, jm_i_X10_wiperMark, jm_i_X10_mark, jm_i_X10_stamperMark, jm_i_X10_ask, jm_i_X10_trace, jm_i_X10_comings, jm_i_X10_count, jm_i_X10_status, jm_i_J6_bitCount_0f7a4, jm_i_L_law]
def jm_fl : List (Nat × Nat × Nat × Nat × Nat) := [(7, 9, 7, 0, 98), (7, 13, 7, 1, 99), (7, 16, 7, 2, 100), (6, 11, 6, 0, 115), (6, 15, 6, 1, 116), (6, 19, 6, 2, 117), (6, 22, 6, 3, 118), (8, 41, 5, 0, 143), (4, 51, 5, 0, 144), (5, 16, 5, 0, 145), (6, 68, 5, 0, 146), (9, 176, 5, 0, 147), (2, 113, 5, 0, 148), (5, 9, 5, 1, 149), (4, 54, 5, 1, 150), (2, 121, 5, 1, 151), (9, 207, 5, 1, 152), (1, 9, 1, 0, 163), (0, 28, 1, 0, 164), (6, 84, 1, 0, 165), (2, 144, 1, 0, 166), (9, 293, 1, 0, 167), (1, 15, 1, 1, 168), (8, 32, 1, 1, 169), (4, 64, 1, 1, 170), (0, 43, 1, 1, 171), (6, 93, 1, 1, 172), (9, 192, 1, 1, 173), (2, 147, 1, 1, 174), (1, 18, 1, 2, 175), (4, 76, 1, 2, 176), (6, 96, 1, 2, 177), (2, 102, 1, 2, 178), (9, 195, 1, 2, 179), (1, 21, 1, 3, 180), (6, 99, 1, 3, 181), (9, 198, 1, 3, 182), (2, 149, 1, 3, 183), (1, 24, 1, 4, 184), (4, 41, 1, 4, 185), (0, 46, 1, 4, 186), (9, 145, 1, 4, 187), (4, 25, 4, 0, 199), (8, 48, 4, 0, 200), (6, 48, 4, 0, 201), (9, 201, 4, 0, 202), (4, 29, 4, 1, 203), (6, 51, 4, 1, 204), (2, 124, 4, 1, 205), (4, 32, 4, 2, 206), (8, 38, 4, 2, 207), (2, 78, 4, 2, 208), (6, 58, 4, 2, 209), (9, 236, 4, 2, 210), (2, 35, 4, 3, 211), (4, 35, 4, 3, 212), (8, 57, 4, 3, 213), (9, 135, 4, 3, 214), (6, 77, 4, 3, 215), (4, 11, 4, 4, 216), (8, 21, 4, 4, 217), (6, 64, 4, 4, 218), (9, 160, 4, 4, 219), (2, 109, 4, 4, 220), (4, 19, 4, 5, 221), (2, 45, 4, 5, 222), (8, 60, 4, 5, 223), (9, 141, 4, 5, 224), (6, 80, 4, 5, 225), (3, 11, 3, 0, 246), (3, 19, 3, 1, 247), (3, 15, 3, 2, 248), (8, 9, 8, 0, 263), (2, 81, 8, 0, 264), (8, 15, 8, 1, 265), (2, 65, 8, 1, 266), (8, 18, 8, 2, 267), (4, 79, 8, 2, 268), (2, 118, 8, 2, 269), (9, 220, 8, 2, 270), (2, 12, 2, 0, 288), (2, 21, 2, 1, 289), (2, 25, 2, 2, 290), (2, 29, 2, 3, 291), (2, 32, 2, 4, 292), (2, 53, 2, 5, 293), (0, 11, 0, 0, 313), (0, 15, 0, 1, 314), (9, 10, 9, 0, 320), (9, 19, 9, 1, 321), (9, 26, 9, 2, 322), (9, 30, 9, 3, 323), (9, 33, 9, 4, 324), (9, 37, 9, 5, 325), (9, 44, 9, 6, 326), (9, 51, 9, 7, 327), (9, 58, 9, 8, 328), (9, 65, 9, 9, 329), (9, 119, 9, 10, 330), (9, 319, 9, 11, 331), (10, 7, 10, 0, 904), (10, 133, 10, 1, 905), (10, 137, 10, 2, 906), (10, 13, 10, 3, 907), (10, 17, 10, 4, 908), (10, 20, 10, 5, 909), (10, 23, 10, 6, 910), (10, 26, 10, 7, 911), (10, 73, 10, 8, 912), (10, 125, 10, 9, 913), (10, 38, 10, 10, 914), (10, 29, 10, 11, 915), (10, 236, 10, 12, 916), (10, 77, 10, 13, 917), (10, 84, 10, 14, 918), (10, 96, 10, 15, 919), (10, 32, 10, 16, 920), (10, 35, 10, 17, 921)]
def jm_sl : List (Nat × Nat × Nat × Nat) := [(2, 135, 1, 773), (2, 138, 2, 775), (1, 27, 0, 834), (0, 33, 3, 847), (0, 36, 4, 849)]
def jm_ml : List (Nat × Nat × Nat × Nat) := [(11, 9, 87, 86), (9, 9, 72, 94), (9, 25, 37, 130), (11, 13, 88, 357), (9, 69, 124, 361), (9, 74, 131, 365), (9, 78, 77, 370), (9, 82, 132, 374), (11, 18, 89, 378), (9, 85, 73, 382), (9, 88, 75, 386), (9, 92, 78, 390), (11, 22, 90, 394), (9, 96, 74, 398), (9, 100, 79, 402), (11, 27, 91, 409), (9, 104, 80, 413), (11, 32, 92, 417), (9, 107, 57, 421), (9, 112, 59, 426), (11, 36, 93, 430), (9, 115, 61, 434), (6, 25, 38, 438), (4, 38, 54, 442), (6, 30, 62, 446), (6, 40, 69, 450), (6, 54, 67, 454), (6, 61, 68, 458), (6, 44, 70, 462), (6, 102, 71, 466), (6, 34, 63, 469), (6, 37, 64, 473), (6, 73, 66, 477), (6, 89, 65, 480), (9, 124, 60, 485), (9, 128, 39, 489), (4, 44, 55, 493), (4, 48, 7, 498), (9, 132, 34, 502), (11, 41, 94, 506), (11, 45, 95, 510), (9, 138, 129, 514), (9, 150, 35, 518), (3, 22, 40, 522), (9, 153, 43, 530), (4, 66, 83, 534), (8, 27, 52, 538), (4, 72, 84, 542), (8, 44, 8, 546), (11, 49, 96, 551), (9, 157, 130, 555), (9, 164, 52, 559), (9, 169, 54, 560), (11, 53, 97, 561), (9, 172, 44, 565), (11, 57, 98, 569), (9, 179, 128, 573), (9, 183, 45, 578), (11, 61, 99, 583), (9, 186, 32, 587), (9, 189, 36, 591), (3, 32, 41, 595), (11, 65, 100, 599), (11, 70, 101, 603), (9, 204, 53, 607), (11, 74, 102, 612), (11, 78, 103, 616), (9, 210, 46, 620), (11, 82, 104, 624), (9, 213, 83, 628), (9, 216, 84, 629), (11, 86, 105, 630), (11, 90, 106, 634), (9, 223, 11, 638), (2, 41, 83, 642), (2, 49, 84, 643), (11, 94, 107, 644), (9, 226, 13, 648), (2, 57, 14, 652), (2, 61, 17, 656), (9, 229, 12, 661), (11, 98, 108, 666), (9, 233, 15, 670), (2, 74, 16, 674), (2, 84, 42, 678), (2, 88, 85, 682), (8, 64, 84, 686), (11, 102, 109, 687), (9, 239, 42, 691), (9, 242, 126, 692), (9, 245, 127, 695), (9, 248, 18, 698), (2, 92, 223, 702), (2, 98, 19, 708), (9, 253, 223, 713), (11, 106, 110, 714), (9, 258, 47, 718), (4, 88, 46, 722), (9, 261, 48, 723), (11, 110, 111, 728), (9, 264, 20, 732), (2, 105, 21, 736), (11, 114, 112, 740), (9, 267, 133, 744), (9, 270, 22, 748), (2, 127, 26, 752), (2, 152, 76, 756), (11, 118, 113, 760), (9, 274, 23, 764), (2, 131, 7, 768), (9, 278, 24, 769), (2, 141, 25, 777), (11, 123, 114, 781), (9, 282, 27, 785), (2, 158, 28, 789), (2, 161, 29, 792), (11, 127, 115, 795), (9, 287, 30, 800), (2, 170, 86, 807), (11, 131, 116, 811), (9, 290, 125, 815), (11, 135, 117, 818), (11, 139, 118, 822), (11, 143, 119, 826), (9, 296, 9, 830), (11, 147, 120, 836), (9, 299, 1, 840), (0, 19, 3, 844), (0, 23, 5, 851), (0, 39, 4, 855), (11, 151, 121, 859), (9, 303, 2, 863), (11, 155, 122, 868), (9, 306, 81, 872), (7, 25, 73, 876), (9, 309, 49, 877), (4, 93, 52, 881), (9, 312, 50, 882), (9, 315, 33, 886), (9, 318, 58, 890), (11, 159, 123, 894), (11, 12, 134, 900), (11, 17, 141, 959), (10, 49, 140, 963), (10, 45, 135, 967), (10, 56, 138, 972), (10, 60, 139, 977), (11, 21, 143, 981), (10, 63, 142, 985), (11, 26, 145, 988), (10, 67, 144, 992), (11, 31, 146, 996), (11, 35, 147, 1000), (11, 40, 159, 1006), (10, 122, 158, 1010), (10, 109, 153, 1014), (10, 99, 151, 1018), (10, 87, 148, 1022), (10, 90, 150, 1026), (10, 102, 152, 1030), (10, 93, 149, 1034), (10, 113, 154, 1040), (10, 116, 157, 1044), (10, 106, 155, 1048), (10, 119, 156, 1051), (10, 129, 161, 1056), (11, 44, 160, 1060), (11, 64, 163, 1064), (11, 48, 172, 1069), (10, 148, 164, 1073), (10, 151, 162, 1077), (10, 154, 169, 1081), (10, 144, 168, 1085), (10, 141, 166, 1089), (11, 52, 173, 1093), (10, 157, 165, 1097), (10, 160, 170, 1101), (11, 56, 175, 1105), (10, 163, 174, 1109), (11, 60, 176, 1113), (11, 69, 177, 1118), (11, 73, 179, 1122), (10, 169, 178, 1126), (11, 77, 180, 1131), (11, 81, 181, 1136), (10, 174, 171, 1140), (11, 85, 184, 1144), (10, 180, 183, 1148), (10, 177, 182, 1152), (11, 89, 185, 1156), (11, 93, 186, 1160), (11, 97, 192, 1164), (10, 191, 187, 1169), (10, 195, 189, 1173), (10, 198, 190, 1177), (10, 183, 188, 1181), (11, 101, 194, 1185), (10, 203, 193, 1190), (10, 206, 191, 1194), (10, 186, 136, 1198), (11, 105, 195, 1201), (10, 211, 137, 1206), (11, 109, 196, 1209), (11, 113, 197, 1213), (11, 117, 200, 1217), (10, 214, 198, 1221), (10, 217, 199, 1225), (11, 122, 201, 1229), (11, 126, 202, 1233), (11, 130, 203, 1238), (10, 230, 167, 1246), (11, 134, 204, 1250), (11, 138, 205, 1254), (11, 142, 206, 1258), (11, 146, 208, 1262), (10, 233, 207, 1266), (11, 150, 218, 1270), (10, 260, 213, 1274), (10, 239, 209, 1278), (10, 248, 211, 1282), (10, 242, 210, 1286), (10, 245, 216, 1290), (10, 257, 215, 1294), (10, 254, 214, 1298), (10, 251, 212, 1302), (10, 263, 217, 1306), (11, 154, 219, 1310), (11, 158, 221, 1314), (10, 266, 220, 1318), (11, 162, 222, 1322)]
def jm_nl : List (Nat × Nat × Nat × Nat) := [(9, 18, 56, 111), (4, 23, 51, 139), (4, 24, 6, 159), (9, 43, 31, 242), (9, 50, 82, 259), (9, 57, 10, 280), (2, 11, 82, 285), (2, 20, 6, 287), (9, 64, 0, 309)]
def jm_ol : List (Nat × Nat × Nat) := [(9, 1, 89), (7, 1, 97), (6, 3, 114), (4, 3, 133), (5, 3, 142), (1, 3, 162), (3, 1, 245), (8, 3, 262), (2, 3, 283), (0, 3, 312), (10, 1, 903)]
def jm_yl : List (Nat × Nat × Nat) := [(7, 19, 406), (5, 20, 497), (4, 58, 526), (2, 68, 660)]
def jm_xl : List (Nat × Nat × Nat) := [(3, 26, 527), (8, 51, 550), (4, 82, 582)]
def jm_kl : List (Nat × Nat × Int × Nat) := [(9, 73, -1000001, 364), (9, 322, -1000010, 369), (9, 111, -1000003, 425), (9, 123, -1000100, 484), (9, 182, -1000002, 577), (5, 15, -1000000, 611), (2, 56, -1000000, 665), (12, 265, 1431655765, 705), (12, 266, 858993459, 706), (12, 267, 252645135, 707), (9, 252, -1000000, 712), (4, 92, -1000000, 727), (9, 286, 999999, 799), (0, 27, -1000000, 867), (10, 55, -1000001, 971), (10, 42, -1000010, 976), (10, 76, -1000003, 1005), (10, 128, -1000100, 1055), (10, 140, -1000002, 1068), (10, 168, -1000000, 1130)]
def jm_jl : List (Nat × Nat × Int × Nat) := [(2, 164, 16807, 804), (2, 166, 2147483647, 805), (2, 168, 7, 806), (10, 43, 7, 966), (10, 53, 2, 970), (10, 71, 255, 1004), (10, 80, 48, 1038), (10, 82, 57, 1039), (10, 166, 20, 1117), (10, 172, 5, 1135), (10, 189, -1, 1168), (10, 201, 3, 1189), (10, 209, 200, 1205), (10, 220, 10, 1237), (10, 222, 60, 1242), (10, 224, 999999, 1243), (10, 226, 16807, 1244), (10, 228, 2147483647, 1245)]
def jm_cl : List (Nat × Nat × Nat × Nat) := [(11, 7, 9, 84), (9, 7, 7, 92), (9, 16, 6, 109), (9, 23, 4, 128), (4, 9, 5, 134), (4, 17, 1, 136), (9, 41, 3, 240), (9, 48, 8, 257), (9, 55, 2, 278), (2, 9, 8, 284), (2, 18, 1, 286), (9, 62, 0, 307), (11, 10, 10, 898)]
def jm_sf : List (String × String × String) := [("MatNations$Comer", "PARENTS", "[I"), ("MatNations$Foretold", "FIRST_TRIED", "[I"), ("MatNations$Foretold", "LAST_TRIED", "[I"), ("MatNations$Asks", "SIZE_BODIES", "[I"), ("MatNations$Asks", "MARK_BODIES", "[I")]
def jm_d0 : jm_I := (⟨"", "", ""⟩, ⟨#[]⟩, 0, none, 0, 0, 0, 0, 0, [])
def jm_in (n : Nat) : jm_I := jm_mi.getD n jm_d0
def jm_y (n : Nat) : MethodName := (jm_in n).1
def jm_co (n : Nat) : ByteArray := (jm_in n).2.1
def jm_ma (n : Nat) : Nat := (jm_in n).2.2.1
def jm_re (n : Nat) : Option FieldType := (jm_in n).2.2.2.1
def jm_ow (n : Nat) : Nat := (jm_in n).2.2.2.2.1
def jm_pa (n : Nat) : Nat := (jm_in n).2.2.2.2.2.1
def jm_ki (n : Nat) : Nat := (jm_in n).2.2.2.2.2.2.1
def jm_mc (n : Nat) : Nat := (jm_in n).2.2.2.2.2.2.2.1
def jm_ms (n : Nat) : Nat := (jm_in n).2.2.2.2.2.2.2.2.1
def jm_pl (n : Nat) : List Nat := (jm_in n).2.2.2.2.2.2.2.2.2
def jm_CN (o : Nat) : String := jm_cn.getD o ""
def jm_c0 : vw_C := ("", TX0, 0)
def jm_T (c : Nat) : u_T := (vwCl.getD c jm_c0).2.1
def jm_N (c : Nat) : Nat := (vwCl.getD c jm_c0).2.2
def jm_flw (q : Nat × Nat × Nat × Nat × Nat) : Cond := .fieldLink (jm_CN q.1) q.2.1 (jm_T q.2.2.1 q.2.2.2.1).1 (jm_T q.2.2.1 q.2.2.2.1).2.1 (jm_T q.2.2.1 q.2.2.2.1).2.2.1
def jm_slw (q : Nat × Nat × Nat × Nat) : Cond := .fieldLink (jm_CN q.1) q.2.1 (jm_sf.getD q.2.2.1 ("", "", "")).1 (jm_sf.getD q.2.2.1 ("", "", "")).2.1 (jm_sf.getD q.2.2.1 ("", "", "")).2.2
def jm_mlw (q : Nat × Nat × Nat × Nat) : Cond := .methodLink (jm_CN q.1) q.2.1 (jm_y q.2.2.1)
def jm_nlw (q : Nat × Nat × Nat × Nat) : Cond := .methodLinkNest (jm_CN q.1) q.2.1 (jm_y q.2.2.1) "MatNations"
def jm_olw (q : Nat × Nat × Nat) : Cond := .methodLink (jm_CN q.1) q.2.1 objectInit
def jm_ylw (q : Nat × Nat × Nat) : Cond := .methodLink (jm_CN q.1) q.2.1 arraycopyName
def jm_xlw (q : Nat × Nat × Nat) : Cond := .methodLink (jm_CN q.1) q.2.1 Lib.Math.min.name
def jm_klw (q : Nat × Nat × Int × Nat) : Cond := .constant (jm_CN q.1) q.2.1 (Int32.ofInt q.2.2.1)
def jm_jlw (q : Nat × Nat × Int × Nat) : Cond := .constantLong (jm_CN q.1) q.2.1 (Int64.ofInt q.2.2.1)
def jm_clw (q : Nat × Nat × Nat × Nat) : Cond := .classLink (jm_CN q.1) q.2.1 (jm_CN q.2.2.1)
/-- a method's own words -/
def jm_miw (x : jm_I) : List Cond := [.code x.1 x.2.1 x.2.2.1 x.2.2.2.1, .initialized x.1.cls] ++ (if x.2.2.2.2.2.2.1 = 1 then [.static x.1] else if x.2.2.2.2.2.2.1 = 0 then [.instanceMethod x.1, .selects x.1.cls x.1 x.1] else [.instanceMethod x.1])
def jm_hw (ws : List Cond) (ps : List Nat) : Bool := decide (ps.map (fun i => lw_tbl[i]?) = ws.map some)
theorem jm_hw_in {ws : List Cond} {ps : List Nat} (h : jm_hw ws ps = true) : ∀ w ∈ ws, w ∈ lw_tbl := by
  intro w hw
  have h1 := of_decide_eq_true h
  have h2 : some w ∈ ps.map (fun i => lw_tbl[i]?) := by rw [h1]; exact List.mem_map.mpr ⟨w, hw, rfl⟩
  obtain ⟨i, -, hi⟩ := List.mem_map.mp h2
  exact List.mem_of_getElem? hi
theorem jm_fl_ok : jm_fl.all (fun q => jm_hw [jm_flw q] [q.2.2.2.2] && decide (q.2.2.2.1 < jm_N q.2.2.1)) = true := by decide +kernel
theorem jm_sl_ok : jm_sl.all (fun q => jm_hw [jm_slw q] [q.2.2.2]) = true := by decide +kernel
theorem jm_ml_ok : jm_ml.all (fun q => jm_hw [jm_mlw q] [q.2.2.2]) = true := by decide +kernel
theorem jm_nl_ok : jm_nl.all (fun q => jm_hw [jm_nlw q] [q.2.2.2]) = true := by decide +kernel
theorem jm_ol_ok : jm_ol.all (fun q => jm_hw [jm_olw q] [q.2.2]) = true := by decide +kernel
theorem jm_yl_ok : jm_yl.all (fun q => jm_hw [jm_ylw q] [q.2.2]) = true := by decide +kernel
theorem jm_xl_ok : jm_xl.all (fun q => jm_hw [jm_xlw q] [q.2.2]) = true := by decide +kernel
theorem jm_kl_ok : jm_kl.all (fun q => jm_hw [jm_klw q] [q.2.2.2]) = true := by decide +kernel
theorem jm_jl_ok : jm_jl.all (fun q => jm_hw [jm_jlw q] [q.2.2.2]) = true := by decide +kernel
theorem jm_cl_ok : jm_cl.all (fun q => jm_hw [jm_clw q] [q.2.2.2]) = true := by decide +kernel
theorem jm_o_X0_init : jm_hw (jm_miw jm_i_X0_init) (jm_i_X0_init.2.2.2.2.2.2.2.2.2) = true := by decide +kernel
theorem jm_o_X0_answer : jm_hw (jm_miw jm_i_X0_answer) (jm_i_X0_answer.2.2.2.2.2.2.2.2.2) = true := by decide +kernel
theorem jm_o_X0_traced : jm_hw (jm_miw jm_i_X0_traced) (jm_i_X0_traced.2.2.2.2.2.2.2.2.2) = true := by decide +kernel
theorem jm_o_X0_bodyOf : jm_hw (jm_miw jm_i_X0_bodyOf) (jm_i_X0_bodyOf.2.2.2.2.2.2.2.2.2) = true := by decide +kernel
theorem jm_o_X0_leaveTrace : jm_hw (jm_miw jm_i_X0_leaveTrace) (jm_i_X0_leaveTrace.2.2.2.2.2.2.2.2.2) = true := by decide +kernel
theorem jm_o_X0_give : jm_hw (jm_miw jm_i_X0_give) (jm_i_X0_give.2.2.2.2.2.2.2.2.2) = true := by decide +kernel
theorem jm_o_X1_init : jm_hw (jm_miw jm_i_X1_init) (jm_i_X1_init.2.2.2.2.2.2.2.2.2) = true := by decide +kernel
theorem jm_o_X1_takeOver : jm_hw (jm_miw jm_i_X1_takeOver) (jm_i_X1_takeOver.2.2.2.2.2.2.2.2.2) = true := by decide +kernel
theorem jm_o_X1_wipes : jm_hw (jm_miw jm_i_X1_wipes) (jm_i_X1_wipes.2.2.2.2.2.2.2.2.2) = true := by decide +kernel
theorem jm_o_X1_isOf : jm_hw (jm_miw jm_i_X1_isOf) (jm_i_X1_isOf.2.2.2.2.2.2.2.2.2) = true := by decide +kernel
theorem jm_o_X2_init : jm_hw (jm_miw jm_i_X2_init) (jm_i_X2_init.2.2.2.2.2.2.2.2.2) = true := by decide +kernel
theorem jm_o_X2_cleanOnes : jm_hw (jm_miw jm_i_X2_cleanOnes) (jm_i_X2_cleanOnes.2.2.2.2.2.2.2.2.2) = true := by decide +kernel
theorem jm_o_X2_told : jm_hw (jm_miw jm_i_X2_told) (jm_i_X2_told.2.2.2.2.2.2.2.2.2) = true := by decide +kernel
theorem jm_o_X2_seekOrder : jm_hw (jm_miw jm_i_X2_seekOrder) (jm_i_X2_seekOrder.2.2.2.2.2.2.2.2.2) = true := by decide +kernel
theorem jm_o_X2_tryOrders : jm_hw (jm_miw jm_i_X2_tryOrders) (jm_i_X2_tryOrders.2.2.2.2.2.2.2.2.2) = true := by decide +kernel
theorem jm_o_X2_seekLaying : jm_hw (jm_miw jm_i_X2_seekLaying) (jm_i_X2_seekLaying.2.2.2.2.2.2.2.2.2) = true := by decide +kernel
theorem jm_o_X2_tryLayings : jm_hw (jm_miw jm_i_X2_tryLayings) (jm_i_X2_tryLayings.2.2.2.2.2.2.2.2.2) = true := by decide +kernel
theorem jm_o_X2_keepTried : jm_hw (jm_miw jm_i_X2_keepTried) (jm_i_X2_keepTried.2.2.2.2.2.2.2.2.2) = true := by decide +kernel
theorem jm_o_X2_fewestBeaten : jm_hw (jm_miw jm_i_X2_fewestBeaten) (jm_i_X2_fewestBeaten.2.2.2.2.2.2.2.2.2) = true := by decide +kernel
theorem jm_o_X2_carriedIfBeaten : jm_hw (jm_miw jm_i_X2_carriedIfBeaten) (jm_i_X2_carriedIfBeaten.2.2.2.2.2.2.2.2.2) = true := by decide +kernel
theorem jm_o_X2_uniters : jm_hw (jm_miw jm_i_X2_uniters) (jm_i_X2_uniters.2.2.2.2.2.2.2.2.2) = true := by decide +kernel
theorem jm_o_X2_bindsTo : jm_hw (jm_miw jm_i_X2_bindsTo) (jm_i_X2_bindsTo.2.2.2.2.2.2.2.2.2) = true := by decide +kernel
theorem jm_o_X2_culprits : jm_hw (jm_miw jm_i_X2_culprits) (jm_i_X2_culprits.2.2.2.2.2.2.2.2.2) = true := by decide +kernel
theorem jm_o_X2_tryAs : jm_hw (jm_miw jm_i_X2_tryAs) (jm_i_X2_tryAs.2.2.2.2.2.2.2.2.2) = true := by decide +kernel
theorem jm_o_X2_fitting : jm_hw (jm_miw jm_i_X2_fitting) (jm_i_X2_fitting.2.2.2.2.2.2.2.2.2) = true := by decide +kernel
theorem jm_o_X2_giveTrait : jm_hw (jm_miw jm_i_X2_giveTrait) (jm_i_X2_giveTrait.2.2.2.2.2.2.2.2.2) = true := by decide +kernel
theorem jm_o_X2_isSoBehind : jm_hw (jm_miw jm_i_X2_isSoBehind) (jm_i_X2_isSoBehind.2.2.2.2.2.2.2.2.2) = true := by decide +kernel
theorem jm_o_X2_likelihood : jm_hw (jm_miw jm_i_X2_likelihood) (jm_i_X2_likelihood.2.2.2.2.2.2.2.2.2) = true := by decide +kernel
theorem jm_o_X2_weight : jm_hw (jm_miw jm_i_X2_weight) (jm_i_X2_weight.2.2.2.2.2.2.2.2.2) = true := by decide +kernel
theorem jm_o_X2_commonDivisor : jm_hw (jm_miw jm_i_X2_commonDivisor) (jm_i_X2_commonDivisor.2.2.2.2.2.2.2.2.2) = true := by decide +kernel
theorem jm_o_X2_years : jm_hw (jm_miw jm_i_X2_years) (jm_i_X2_years.2.2.2.2.2.2.2.2.2) = true := by decide +kernel
theorem jm_o_X3_init : jm_hw (jm_miw jm_i_X3_init) (jm_i_X3_init.2.2.2.2.2.2.2.2.2) = true := by decide +kernel
theorem jm_o_X3_isEmpty : jm_hw (jm_miw jm_i_X3_isEmpty) (jm_i_X3_isEmpty.2.2.2.2.2.2.2.2.2) = true := by decide +kernel
theorem jm_o_X3_size : jm_hw (jm_miw jm_i_X3_size) (jm_i_X3_size.2.2.2.2.2.2.2.2.2) = true := by decide +kernel
theorem jm_o_X3_forget : jm_hw (jm_miw jm_i_X3_forget) (jm_i_X3_forget.2.2.2.2.2.2.2.2.2) = true := by decide +kernel
theorem jm_o_X3_keep : jm_hw (jm_miw jm_i_X3_keep) (jm_i_X3_keep.2.2.2.2.2.2.2.2.2) = true := by decide +kernel
theorem jm_o_X3_takeBack : jm_hw (jm_miw jm_i_X3_takeBack) (jm_i_X3_takeBack.2.2.2.2.2.2.2.2.2) = true := by decide +kernel
theorem jm_o_X4_init : jm_hw (jm_miw jm_i_X4_init) (jm_i_X4_init.2.2.2.2.2.2.2.2.2) = true := by decide +kernel
theorem jm_o_X4_clear : jm_hw (jm_miw jm_i_X4_clear) (jm_i_X4_clear.2.2.2.2.2.2.2.2.2) = true := by decide +kernel
theorem jm_o_X4_takeOver : jm_hw (jm_miw jm_i_X4_takeOver) (jm_i_X4_takeOver.2.2.2.2.2.2.2.2.2) = true := by decide +kernel
theorem jm_o_X4_writeCells : jm_hw (jm_miw jm_i_X4_writeCells) (jm_i_X4_writeCells.2.2.2.2.2.2.2.2.2) = true := by decide +kernel
theorem jm_o_X4_readCells : jm_hw (jm_miw jm_i_X4_readCells) (jm_i_X4_readCells.2.2.2.2.2.2.2.2.2) = true := by decide +kernel
theorem jm_o_X4_allComers : jm_hw (jm_miw jm_i_X4_allComers) (jm_i_X4_allComers.2.2.2.2.2.2.2.2.2) = true := by decide +kernel
theorem jm_o_X4_receive : jm_hw (jm_miw jm_i_X4_receive) (jm_i_X4_receive.2.2.2.2.2.2.2.2.2) = true := by decide +kernel
theorem jm_o_X4_swapWithNext : jm_hw (jm_miw jm_i_X4_swapWithNext) (jm_i_X4_swapWithNext.2.2.2.2.2.2.2.2.2) = true := by decide +kernel
theorem jm_o_X4_rainOnAll : jm_hw (jm_miw jm_i_X4_rainOnAll) (jm_i_X4_rainOnAll.2.2.2.2.2.2.2.2.2) = true := by decide +kernel
theorem jm_o_X4_areAtOne : jm_hw (jm_miw jm_i_X4_areAtOne) (jm_i_X4_areAtOne.2.2.2.2.2.2.2.2.2) = true := by decide +kernel
theorem jm_o_X4_pactCount : jm_hw (jm_miw jm_i_X4_pactCount) (jm_i_X4_pactCount.2.2.2.2.2.2.2.2.2) = true := by decide +kernel
theorem jm_o_X4_firstPact : jm_hw (jm_miw jm_i_X4_firstPact) (jm_i_X4_firstPact.2.2.2.2.2.2.2.2.2) = true := by decide +kernel
theorem jm_o_X4_lyingInAll : jm_hw (jm_miw jm_i_X4_lyingInAll) (jm_i_X4_lyingInAll.2.2.2.2.2.2.2.2.2) = true := by decide +kernel
theorem jm_o_X4_comings : jm_hw (jm_miw jm_i_X4_comings) (jm_i_X4_comings.2.2.2.2.2.2.2.2.2) = true := by decide +kernel
theorem jm_o_X5_init : jm_hw (jm_miw jm_i_X5_init) (jm_i_X5_init.2.2.2.2.2.2.2.2.2) = true := by decide +kernel
theorem jm_o_X5_lying : jm_hw (jm_miw jm_i_X5_lying) (jm_i_X5_lying.2.2.2.2.2.2.2.2.2) = true := by decide +kernel
theorem jm_o_X5_master : jm_hw (jm_miw jm_i_X5_master) (jm_i_X5_master.2.2.2.2.2.2.2.2.2) = true := by decide +kernel
theorem jm_o_X5_empty : jm_hw (jm_miw jm_i_X5_empty) (jm_i_X5_empty.2.2.2.2.2.2.2.2.2) = true := by decide +kernel
theorem jm_o_X5_takeOver : jm_hw (jm_miw jm_i_X5_takeOver) (jm_i_X5_takeOver.2.2.2.2.2.2.2.2.2) = true := by decide +kernel
theorem jm_o_X6_init : jm_hw (jm_miw jm_i_X6_init) (jm_i_X6_init.2.2.2.2.2.2.2.2.2) = true := by decide +kernel
theorem jm_o_X6_isFull : jm_hw (jm_miw jm_i_X6_isFull) (jm_i_X6_isFull.2.2.2.2.2.2.2.2.2) = true := by decide +kernel
theorem jm_o_X6_size : jm_hw (jm_miw jm_i_X6_size) (jm_i_X6_size.2.2.2.2.2.2.2.2.2) = true := by decide +kernel
theorem jm_o_X6_append : jm_hw (jm_miw jm_i_X6_append) (jm_i_X6_append.2.2.2.2.2.2.2.2.2) = true := by decide +kernel
theorem jm_o_X6_place : jm_hw (jm_miw jm_i_X6_place) (jm_i_X6_place.2.2.2.2.2.2.2.2.2) = true := by decide +kernel
theorem jm_o_X6_readInto : jm_hw (jm_miw jm_i_X6_readInto) (jm_i_X6_readInto.2.2.2.2.2.2.2.2.2) = true := by decide +kernel
theorem jm_o_X6_readLaw : jm_hw (jm_miw jm_i_X6_readLaw) (jm_i_X6_readLaw.2.2.2.2.2.2.2.2.2) = true := by decide +kernel
theorem jm_o_X6_readMats : jm_hw (jm_miw jm_i_X6_readMats) (jm_i_X6_readMats.2.2.2.2.2.2.2.2.2) = true := by decide +kernel
theorem jm_o_X6_readComers : jm_hw (jm_miw jm_i_X6_readComers) (jm_i_X6_readComers.2.2.2.2.2.2.2.2.2) = true := by decide +kernel
theorem jm_o_X6_readTraits : jm_hw (jm_miw jm_i_X6_readTraits) (jm_i_X6_readTraits.2.2.2.2.2.2.2.2.2) = true := by decide +kernel
theorem jm_o_X6_sortOf : jm_hw (jm_miw jm_i_X6_sortOf) (jm_i_X6_sortOf.2.2.2.2.2.2.2.2.2) = true := by decide +kernel
theorem jm_o_X6_seen : jm_hw (jm_miw jm_i_X6_seen) (jm_i_X6_seen.2.2.2.2.2.2.2.2.2) = true := by decide +kernel
theorem jm_o_X6_refuse : jm_hw (jm_miw jm_i_X6_refuse) (jm_i_X6_refuse.2.2.2.2.2.2.2.2.2) = true := by decide +kernel
theorem jm_o_X6_takeByte : jm_hw (jm_miw jm_i_X6_takeByte) (jm_i_X6_takeByte.2.2.2.2.2.2.2.2.2) = true := by decide +kernel
theorem jm_o_X6_takeNumber : jm_hw (jm_miw jm_i_X6_takeNumber) (jm_i_X6_takeNumber.2.2.2.2.2.2.2.2.2) = true := by decide +kernel
theorem jm_o_X6_isFigure : jm_hw (jm_miw jm_i_X6_isFigure) (jm_i_X6_isFigure.2.2.2.2.2.2.2.2.2) = true := by decide +kernel
theorem jm_o_X7_init : jm_hw (jm_miw jm_i_X7_init) (jm_i_X7_init.2.2.2.2.2.2.2.2.2) = true := by decide +kernel
theorem jm_o_X7_isMissing : jm_hw (jm_miw jm_i_X7_isMissing) (jm_i_X7_isMissing.2.2.2.2.2.2.2.2.2) = true := by decide +kernel
theorem jm_o_X7_sameLane : jm_hw (jm_miw jm_i_X7_sameLane) (jm_i_X7_sameLane.2.2.2.2.2.2.2.2.2) = true := by decide +kernel
theorem jm_o_X7_reaches : jm_hw (jm_miw jm_i_X7_reaches) (jm_i_X7_reaches.2.2.2.2.2.2.2.2.2) = true := by decide +kernel
theorem jm_o_X7_item : jm_hw (jm_miw jm_i_X7_item) (jm_i_X7_item.2.2.2.2.2.2.2.2.2) = true := by decide +kernel
theorem jm_o_X7_make : jm_hw (jm_miw jm_i_X7_make) (jm_i_X7_make.2.2.2.2.2.2.2.2.2) = true := by decide +kernel
theorem jm_o_X7_put : jm_hw (jm_miw jm_i_X7_put) (jm_i_X7_put.2.2.2.2.2.2.2.2.2) = true := by decide +kernel
theorem jm_o_X7_carryOver : jm_hw (jm_miw jm_i_X7_carryOver) (jm_i_X7_carryOver.2.2.2.2.2.2.2.2.2) = true := by decide +kernel
theorem jm_o_X7_remove : jm_hw (jm_miw jm_i_X7_remove) (jm_i_X7_remove.2.2.2.2.2.2.2.2.2) = true := by decide +kernel
theorem jm_o_X7_present : jm_hw (jm_miw jm_i_X7_present) (jm_i_X7_present.2.2.2.2.2.2.2.2.2) = true := by decide +kernel
theorem jm_o_X8_init : jm_hw (jm_miw jm_i_X8_init) (jm_i_X8_init.2.2.2.2.2.2.2.2.2) = true := by decide +kernel
theorem jm_o_X8_begin : jm_hw (jm_miw jm_i_X8_begin) (jm_i_X8_begin.2.2.2.2.2.2.2.2.2) = true := by decide +kernel
theorem jm_o_X8_goOver : jm_hw (jm_miw jm_i_X8_goOver) (jm_i_X8_goOver.2.2.2.2.2.2.2.2.2) = true := by decide +kernel
theorem jm_o_X8_allGoOver : jm_hw (jm_miw jm_i_X8_allGoOver) (jm_i_X8_allGoOver.2.2.2.2.2.2.2.2.2) = true := by decide +kernel
theorem jm_o_X8_lyingInAll : jm_hw (jm_miw jm_i_X8_lyingInAll) (jm_i_X8_lyingInAll.2.2.2.2.2.2.2.2.2) = true := by decide +kernel
theorem jm_o_X9_init : jm_hw (jm_miw jm_i_X9_init) (jm_i_X9_init.2.2.2.2.2.2.2.2.2) = true := by decide +kernel
theorem jm_o_X9_row : jm_hw (jm_miw jm_i_X9_row) (jm_i_X9_row.2.2.2.2.2.2.2.2.2) = true := by decide +kernel
theorem jm_o_X9_set : jm_hw (jm_miw jm_i_X9_set) (jm_i_X9_set.2.2.2.2.2.2.2.2.2) = true := by decide +kernel
theorem jm_o_X9_copy : jm_hw (jm_miw jm_i_X9_copy) (jm_i_X9_copy.2.2.2.2.2.2.2.2.2) = true := by decide +kernel
theorem jm_o_X9_drop : jm_hw (jm_miw jm_i_X9_drop) (jm_i_X9_drop.2.2.2.2.2.2.2.2.2) = true := by decide +kernel
theorem jm_o_X9_feed : jm_hw (jm_miw jm_i_X9_feed) (jm_i_X9_feed.2.2.2.2.2.2.2.2.2) = true := by decide +kernel
theorem jm_o_X9_hotel : jm_hw (jm_miw jm_i_X9_hotel) (jm_i_X9_hotel.2.2.2.2.2.2.2.2.2) = true := by decide +kernel
theorem jm_o_X9_fault : jm_hw (jm_miw jm_i_X9_fault) (jm_i_X9_fault.2.2.2.2.2.2.2.2.2) = true := by decide +kernel
theorem jm_o_X9_come : jm_hw (jm_miw jm_i_X9_come) (jm_i_X9_come.2.2.2.2.2.2.2.2.2) = true := by decide +kernel
theorem jm_o_X9_beat : jm_hw (jm_miw jm_i_X9_beat) (jm_i_X9_beat.2.2.2.2.2.2.2.2.2) = true := by decide +kernel
theorem jm_o_X9_change : jm_hw (jm_miw jm_i_X9_change) (jm_i_X9_change.2.2.2.2.2.2.2.2.2) = true := by decide +kernel
theorem jm_o_X9_rain : jm_hw (jm_miw jm_i_X9_rain) (jm_i_X9_rain.2.2.2.2.2.2.2.2.2) = true := by decide +kernel
theorem jm_o_X9_undo : jm_hw (jm_miw jm_i_X9_undo) (jm_i_X9_undo.2.2.2.2.2.2.2.2.2) = true := by decide +kernel
theorem jm_o_X9_comer : jm_hw (jm_miw jm_i_X9_comer) (jm_i_X9_comer.2.2.2.2.2.2.2.2.2) = true := by decide +kernel
theorem jm_o_X9_mat : jm_hw (jm_miw jm_i_X9_mat) (jm_i_X9_mat.2.2.2.2.2.2.2.2.2) = true := by decide +kernel
theorem jm_o_X9_soil : jm_hw (jm_miw jm_i_X9_soil) (jm_i_X9_soil.2.2.2.2.2.2.2.2.2) = true := by decide +kernel
theorem jm_o_X9_atOne : jm_hw (jm_miw jm_i_X9_atOne) (jm_i_X9_atOne.2.2.2.2.2.2.2.2.2) = true := by decide +kernel
theorem jm_o_X9_leaves : jm_hw (jm_miw jm_i_X9_leaves) (jm_i_X9_leaves.2.2.2.2.2.2.2.2.2) = true := by decide +kernel
theorem jm_o_X9_carries : jm_hw (jm_miw jm_i_X9_carries) (jm_i_X9_carries.2.2.2.2.2.2.2.2.2) = true := by decide +kernel
theorem jm_o_X9_clean : jm_hw (jm_miw jm_i_X9_clean) (jm_i_X9_clean.2.2.2.2.2.2.2.2.2) = true := by decide +kernel
theorem jm_o_X9_order : jm_hw (jm_miw jm_i_X9_order) (jm_i_X9_order.2.2.2.2.2.2.2.2.2) = true := by decide +kernel
theorem jm_o_X9_laying : jm_hw (jm_miw jm_i_X9_laying) (jm_i_X9_laying.2.2.2.2.2.2.2.2.2) = true := by decide +kernel
theorem jm_o_X9_beating : jm_hw (jm_miw jm_i_X9_beating) (jm_i_X9_beating.2.2.2.2.2.2.2.2.2) = true := by decide +kernel
theorem jm_o_X9_pacts : jm_hw (jm_miw jm_i_X9_pacts) (jm_i_X9_pacts.2.2.2.2.2.2.2.2.2) = true := by decide +kernel
theorem jm_o_X9_could : jm_hw (jm_miw jm_i_X9_could) (jm_i_X9_could.2.2.2.2.2.2.2.2.2) = true := by decide +kernel
theorem jm_o_X9_who : jm_hw (jm_miw jm_i_X9_who) (jm_i_X9_who.2.2.2.2.2.2.2.2.2) = true := by decide +kernel
theorem jm_o_X9_fits : jm_hw (jm_miw jm_i_X9_fits) (jm_i_X9_fits.2.2.2.2.2.2.2.2.2) = true := by decide +kernel
theorem jm_o_X9_absent : jm_hw (jm_miw jm_i_X9_absent) (jm_i_X9_absent.2.2.2.2.2.2.2.2.2) = true := by decide +kernel
theorem jm_o_X9_drawn : jm_hw (jm_miw jm_i_X9_drawn) (jm_i_X9_drawn.2.2.2.2.2.2.2.2.2) = true := by decide +kernel
theorem jm_o_X9_image : jm_hw (jm_miw jm_i_X9_image) (jm_i_X9_image.2.2.2.2.2.2.2.2.2) = true := by decide +kernel
theorem jm_o_X9_restore : jm_hw (jm_miw jm_i_X9_restore) (jm_i_X9_restore.2.2.2.2.2.2.2.2.2) = true := by decide +kernel
theorem jm_o_X9_kind : jm_hw (jm_miw jm_i_X9_kind) (jm_i_X9_kind.2.2.2.2.2.2.2.2.2) = true := by decide +kernel
theorem jm_o_X9_as : jm_hw (jm_miw jm_i_X9_as) (jm_i_X9_as.2.2.2.2.2.2.2.2.2) = true := by decide +kernel
theorem jm_o_X9_ask : jm_hw (jm_miw jm_i_X9_ask) (jm_i_X9_ask.2.2.2.2.2.2.2.2.2) = true := by decide +kernel
theorem jm_o_X9_trace : jm_hw (jm_miw jm_i_X9_trace) (jm_i_X9_trace.2.2.2.2.2.2.2.2.2) = true := by decide +kernel
theorem jm_o_X9_count : jm_hw (jm_miw jm_i_X9_count) (jm_i_X9_count.2.2.2.2.2.2.2.2.2) = true := by decide +kernel
theorem jm_o_X9_status : jm_hw (jm_miw jm_i_X9_status) (jm_i_X9_status.2.2.2.2.2.2.2.2.2) = true := by decide +kernel
theorem jm_o_X9_noRow : jm_hw (jm_miw jm_i_X9_noRow) (jm_i_X9_noRow.2.2.2.2.2.2.2.2.2) = true := by decide +kernel
theorem jm_o_X9_noImage : jm_hw (jm_miw jm_i_X9_noImage) (jm_i_X9_noImage.2.2.2.2.2.2.2.2.2) = true := by decide +kernel
theorem jm_o_X9_noCarried : jm_hw (jm_miw jm_i_X9_noCarried) (jm_i_X9_noCarried.2.2.2.2.2.2.2.2.2) = true := by decide +kernel
theorem jm_o_X9_neither : jm_hw (jm_miw jm_i_X9_neither) (jm_i_X9_neither.2.2.2.2.2.2.2.2.2) = true := by decide +kernel
theorem jm_o_X9_noHotel : jm_hw (jm_miw jm_i_X9_noHotel) (jm_i_X9_noHotel.2.2.2.2.2.2.2.2.2) = true := by decide +kernel
theorem jm_o_X9_noComer : jm_hw (jm_miw jm_i_X9_noComer) (jm_i_X9_noComer.2.2.2.2.2.2.2.2.2) = true := by decide +kernel
theorem jm_o_X9_noMat : jm_hw (jm_miw jm_i_X9_noMat) (jm_i_X9_noMat.2.2.2.2.2.2.2.2.2) = true := by decide +kernel
theorem jm_o_X9_found : jm_hw (jm_miw jm_i_X9_found) (jm_i_X9_found.2.2.2.2.2.2.2.2.2) = true := by decide +kernel
theorem jm_o_X9_unfound : jm_hw (jm_miw jm_i_X9_unfound) (jm_i_X9_unfound.2.2.2.2.2.2.2.2.2) = true := by decide +kernel
theorem jm_o_X9_matRowFinding : jm_hw (jm_miw jm_i_X9_matRowFinding) (jm_i_X9_matRowFinding.2.2.2.2.2.2.2.2.2) = true := by decide +kernel
theorem jm_o_X10_init : jm_hw (jm_miw jm_i_X10_init) (jm_i_X10_init.2.2.2.2.2.2.2.2.2) = true := by decide +kernel
theorem jm_o_X10_in : jm_hw (jm_miw jm_i_X10_in) (jm_i_X10_in.2.2.2.2.2.2.2.2.2) = true := by decide +kernel
theorem jm_o_X10_has : jm_hw (jm_miw jm_i_X10_has) (jm_i_X10_has.2.2.2.2.2.2.2.2.2) = true := by decide +kernel
theorem jm_o_X10_bits : jm_hw (jm_miw jm_i_X10_bits) (jm_i_X10_bits.2.2.2.2.2.2.2.2.2) = true := by decide +kernel
theorem jm_o_X10_find : jm_hw (jm_miw jm_i_X10_find) (jm_i_X10_find.2.2.2.2.2.2.2.2.2) = true := by decide +kernel
theorem jm_o_X10_well : jm_hw (jm_miw jm_i_X10_well) (jm_i_X10_well.2.2.2.2.2.2.2.2.2) = true := by decide +kernel
theorem jm_o_X10_isRow : jm_hw (jm_miw jm_i_X10_isRow) (jm_i_X10_isRow.2.2.2.2.2.2.2.2.2) = true := by decide +kernel
theorem jm_o_X10_row : jm_hw (jm_miw jm_i_X10_row) (jm_i_X10_row.2.2.2.2.2.2.2.2.2) = true := by decide +kernel
theorem jm_o_X10_narrow : jm_hw (jm_miw jm_i_X10_narrow) (jm_i_X10_narrow.2.2.2.2.2.2.2.2.2) = true := by decide +kernel
theorem jm_o_X10_set : jm_hw (jm_miw jm_i_X10_set) (jm_i_X10_set.2.2.2.2.2.2.2.2.2) = true := by decide +kernel
theorem jm_o_X10_isSpan : jm_hw (jm_miw jm_i_X10_isSpan) (jm_i_X10_isSpan.2.2.2.2.2.2.2.2.2) = true := by decide +kernel
theorem jm_o_X10_copy : jm_hw (jm_miw jm_i_X10_copy) (jm_i_X10_copy.2.2.2.2.2.2.2.2.2) = true := by decide +kernel
theorem jm_o_X10_drop : jm_hw (jm_miw jm_i_X10_drop) (jm_i_X10_drop.2.2.2.2.2.2.2.2.2) = true := by decide +kernel
theorem jm_o_X10_feed : jm_hw (jm_miw jm_i_X10_feed) (jm_i_X10_feed.2.2.2.2.2.2.2.2.2) = true := by decide +kernel
theorem jm_o_X10_isLetter : jm_hw (jm_miw jm_i_X10_isLetter) (jm_i_X10_isLetter.2.2.2.2.2.2.2.2.2) = true := by decide +kernel
theorem jm_o_X10_isFigure : jm_hw (jm_miw jm_i_X10_isFigure) (jm_i_X10_isFigure.2.2.2.2.2.2.2.2.2) = true := by decide +kernel
theorem jm_o_X10_refuse : jm_hw (jm_miw jm_i_X10_refuse) (jm_i_X10_refuse.2.2.2.2.2.2.2.2.2) = true := by decide +kernel
theorem jm_o_X10_sign : jm_hw (jm_miw jm_i_X10_sign) (jm_i_X10_sign.2.2.2.2.2.2.2.2.2) = true := by decide +kernel
theorem jm_o_X10_readsNumber : jm_hw (jm_miw jm_i_X10_readsNumber) (jm_i_X10_readsNumber.2.2.2.2.2.2.2.2.2) = true := by decide +kernel
theorem jm_o_X10_readsLaw : jm_hw (jm_miw jm_i_X10_readsLaw) (jm_i_X10_readsLaw.2.2.2.2.2.2.2.2.2) = true := by decide +kernel
theorem jm_o_X10_readsMat : jm_hw (jm_miw jm_i_X10_readsMat) (jm_i_X10_readsMat.2.2.2.2.2.2.2.2.2) = true := by decide +kernel
theorem jm_o_X10_kindOfLetter : jm_hw (jm_miw jm_i_X10_kindOfLetter) (jm_i_X10_kindOfLetter.2.2.2.2.2.2.2.2.2) = true := by decide +kernel
theorem jm_o_X10_readsComer : jm_hw (jm_miw jm_i_X10_readsComer) (jm_i_X10_readsComer.2.2.2.2.2.2.2.2.2) = true := by decide +kernel
theorem jm_o_X10_isSort : jm_hw (jm_miw jm_i_X10_isSort) (jm_i_X10_isSort.2.2.2.2.2.2.2.2.2) = true := by decide +kernel
theorem jm_o_X10_reads : jm_hw (jm_miw jm_i_X10_reads) (jm_i_X10_reads.2.2.2.2.2.2.2.2.2) = true := by decide +kernel
theorem jm_o_X10_hotel : jm_hw (jm_miw jm_i_X10_hotel) (jm_i_X10_hotel.2.2.2.2.2.2.2.2.2) = true := by decide +kernel
theorem jm_o_X10_fault : jm_hw (jm_miw jm_i_X10_fault) (jm_i_X10_fault.2.2.2.2.2.2.2.2.2) = true := by decide +kernel
theorem jm_o_X10_copyTown : jm_hw (jm_miw jm_i_X10_copyTown) (jm_i_X10_copyTown.2.2.2.2.2.2.2.2.2) = true := by decide +kernel
theorem jm_o_X10_keepPast : jm_hw (jm_miw jm_i_X10_keepPast) (jm_i_X10_keepPast.2.2.2.2.2.2.2.2.2) = true := by decide +kernel
theorem jm_o_X10_undo : jm_hw (jm_miw jm_i_X10_undo) (jm_i_X10_undo.2.2.2.2.2.2.2.2.2) = true := by decide +kernel
theorem jm_o_X10_isComer : jm_hw (jm_miw jm_i_X10_isComer) (jm_i_X10_isComer.2.2.2.2.2.2.2.2.2) = true := by decide +kernel
theorem jm_o_X10_isMat : jm_hw (jm_miw jm_i_X10_isMat) (jm_i_X10_isMat.2.2.2.2.2.2.2.2.2) = true := by decide +kernel
theorem jm_o_X10_liesOn : jm_hw (jm_miw jm_i_X10_liesOn) (jm_i_X10_liesOn.2.2.2.2.2.2.2.2.2) = true := by decide +kernel
theorem jm_o_X10_onAll : jm_hw (jm_miw jm_i_X10_onAll) (jm_i_X10_onAll.2.2.2.2.2.2.2.2.2) = true := by decide +kernel
theorem jm_o_X10_leavesOn : jm_hw (jm_miw jm_i_X10_leavesOn) (jm_i_X10_leavesOn.2.2.2.2.2.2.2.2.2) = true := by decide +kernel
theorem jm_o_X10_comesAt : jm_hw (jm_miw jm_i_X10_comesAt) (jm_i_X10_comesAt.2.2.2.2.2.2.2.2.2) = true := by decide +kernel
theorem jm_o_X10_beatsAt : jm_hw (jm_miw jm_i_X10_beatsAt) (jm_i_X10_beatsAt.2.2.2.2.2.2.2.2.2) = true := by decide +kernel
theorem jm_o_X10_areAtOne : jm_hw (jm_miw jm_i_X10_areAtOne) (jm_i_X10_areAtOne.2.2.2.2.2.2.2.2.2) = true := by decide +kernel
theorem jm_o_X10_come : jm_hw (jm_miw jm_i_X10_come) (jm_i_X10_come.2.2.2.2.2.2.2.2.2) = true := by decide +kernel
theorem jm_o_X10_beat : jm_hw (jm_miw jm_i_X10_beat) (jm_i_X10_beat.2.2.2.2.2.2.2.2.2) = true := by decide +kernel
theorem jm_o_X10_swapPlaces : jm_hw (jm_miw jm_i_X10_swapPlaces) (jm_i_X10_swapPlaces.2.2.2.2.2.2.2.2.2) = true := by decide +kernel
theorem jm_o_X10_change : jm_hw (jm_miw jm_i_X10_change) (jm_i_X10_change.2.2.2.2.2.2.2.2.2) = true := by decide +kernel
theorem jm_o_X10_rain : jm_hw (jm_miw jm_i_X10_rain) (jm_i_X10_rain.2.2.2.2.2.2.2.2.2) = true := by decide +kernel
theorem jm_o_X10_comer : jm_hw (jm_miw jm_i_X10_comer) (jm_i_X10_comer.2.2.2.2.2.2.2.2.2) = true := by decide +kernel
theorem jm_o_X10_masterOf : jm_hw (jm_miw jm_i_X10_masterOf) (jm_i_X10_masterOf.2.2.2.2.2.2.2.2.2) = true := by decide +kernel
theorem jm_o_X10_mat : jm_hw (jm_miw jm_i_X10_mat) (jm_i_X10_mat.2.2.2.2.2.2.2.2.2) = true := by decide +kernel
theorem jm_o_X10_soil : jm_hw (jm_miw jm_i_X10_soil) (jm_i_X10_soil.2.2.2.2.2.2.2.2.2) = true := by decide +kernel
theorem jm_o_X10_atOne : jm_hw (jm_miw jm_i_X10_atOne) (jm_i_X10_atOne.2.2.2.2.2.2.2.2.2) = true := by decide +kernel
theorem jm_o_X10_layTried : jm_hw (jm_miw jm_i_X10_layTried) (jm_i_X10_layTried.2.2.2.2.2.2.2.2.2) = true := by decide +kernel
theorem jm_o_X10_carriesIf : jm_hw (jm_miw jm_i_X10_carriesIf) (jm_i_X10_carriesIf.2.2.2.2.2.2.2.2.2) = true := by decide +kernel
theorem jm_o_X10_leaves : jm_hw (jm_miw jm_i_X10_leaves) (jm_i_X10_leaves.2.2.2.2.2.2.2.2.2) = true := by decide +kernel
theorem jm_o_X10_carries : jm_hw (jm_miw jm_i_X10_carries) (jm_i_X10_carries.2.2.2.2.2.2.2.2.2) = true := by decide +kernel
theorem jm_o_X10_clean : jm_hw (jm_miw jm_i_X10_clean) (jm_i_X10_clean.2.2.2.2.2.2.2.2.2) = true := by decide +kernel
theorem jm_o_X10_layLine : jm_hw (jm_miw jm_i_X10_layLine) (jm_i_X10_layLine.2.2.2.2.2.2.2.2.2) = true := by decide +kernel
theorem jm_o_X10_swapLine : jm_hw (jm_miw jm_i_X10_swapLine) (jm_i_X10_swapLine.2.2.2.2.2.2.2.2.2) = true := by decide +kernel
theorem jm_o_X10_takeLine : jm_hw (jm_miw jm_i_X10_takeLine) (jm_i_X10_takeLine.2.2.2.2.2.2.2.2.2) = true := by decide +kernel
theorem jm_o_X10_nextLine : jm_hw (jm_miw jm_i_X10_nextLine) (jm_i_X10_nextLine.2.2.2.2.2.2.2.2.2) = true := by decide +kernel
theorem jm_o_X10_comeAll : jm_hw (jm_miw jm_i_X10_comeAll) (jm_i_X10_comeAll.2.2.2.2.2.2.2.2.2) = true := by decide +kernel
theorem jm_o_X10_order : jm_hw (jm_miw jm_i_X10_order) (jm_i_X10_order.2.2.2.2.2.2.2.2.2) = true := by decide +kernel
theorem jm_o_X10_layMats : jm_hw (jm_miw jm_i_X10_layMats) (jm_i_X10_layMats.2.2.2.2.2.2.2.2.2) = true := by decide +kernel
theorem jm_o_X10_laying : jm_hw (jm_miw jm_i_X10_laying) (jm_i_X10_laying.2.2.2.2.2.2.2.2.2) = true := by decide +kernel
theorem jm_o_X10_beating : jm_hw (jm_miw jm_i_X10_beating) (jm_i_X10_beating.2.2.2.2.2.2.2.2.2) = true := by decide +kernel
theorem jm_o_X10_pacts : jm_hw (jm_miw jm_i_X10_pacts) (jm_i_X10_pacts.2.2.2.2.2.2.2.2.2) = true := by decide +kernel
theorem jm_o_X10_could : jm_hw (jm_miw jm_i_X10_could) (jm_i_X10_could.2.2.2.2.2.2.2.2.2) = true := by decide +kernel
theorem jm_o_X10_noItems : jm_hw (jm_miw jm_i_X10_noItems) (jm_i_X10_noItems.2.2.2.2.2.2.2.2.2) = true := by decide +kernel
theorem jm_o_X10_isSo : jm_hw (jm_miw jm_i_X10_isSo) (jm_i_X10_isSo.2.2.2.2.2.2.2.2.2) = true := by decide +kernel
theorem jm_o_X10_who : jm_hw (jm_miw jm_i_X10_who) (jm_i_X10_who.2.2.2.2.2.2.2.2.2) = true := by decide +kernel
theorem jm_o_X10_fits : jm_hw (jm_miw jm_i_X10_fits) (jm_i_X10_fits.2.2.2.2.2.2.2.2.2) = true := by decide +kernel
theorem jm_o_X10_absent : jm_hw (jm_miw jm_i_X10_absent) (jm_i_X10_absent.2.2.2.2.2.2.2.2.2) = true := by decide +kernel
theorem jm_o_X10_drawn : jm_hw (jm_miw jm_i_X10_drawn) (jm_i_X10_drawn.2.2.2.2.2.2.2.2.2) = true := by decide +kernel
theorem jm_o_X10_image : jm_hw (jm_miw jm_i_X10_image) (jm_i_X10_image.2.2.2.2.2.2.2.2.2) = true := by decide +kernel
theorem jm_o_X10_restore : jm_hw (jm_miw jm_i_X10_restore) (jm_i_X10_restore.2.2.2.2.2.2.2.2.2) = true := by decide +kernel
theorem jm_o_X10_kind : jm_hw (jm_miw jm_i_X10_kind) (jm_i_X10_kind.2.2.2.2.2.2.2.2.2) = true := by decide +kernel
theorem jm_o_X10_isOf : jm_hw (jm_miw jm_i_X10_isOf) (jm_i_X10_isOf.2.2.2.2.2.2.2.2.2) = true := by decide +kernel
theorem jm_o_X10_as : jm_hw (jm_miw jm_i_X10_as) (jm_i_X10_as.2.2.2.2.2.2.2.2.2) = true := by decide +kernel
theorem jm_o_X10_begin : jm_hw (jm_miw jm_i_X10_begin) (jm_i_X10_begin.2.2.2.2.2.2.2.2.2) = true := by decide +kernel
theorem jm_o_X10_lentSize : jm_hw (jm_miw jm_i_X10_lentSize) (jm_i_X10_lentSize.2.2.2.2.2.2.2.2.2) = true := by decide +kernel
theorem jm_o_X10_wiperSize : jm_hw (jm_miw jm_i_X10_wiperSize) (jm_i_X10_wiperSize.2.2.2.2.2.2.2.2.2) = true := by decide +kernel
theorem jm_o_X10_stamperSize : jm_hw (jm_miw jm_i_X10_stamperSize) (jm_i_X10_stamperSize.2.2.2.2.2.2.2.2.2) = true := by decide +kernel
theorem jm_o_X10_sizeOf : jm_hw (jm_miw jm_i_X10_sizeOf) (jm_i_X10_sizeOf.2.2.2.2.2.2.2.2.2) = true := by decide +kernel
theorem jm_o_X10_lentMark : jm_hw (jm_miw jm_i_X10_lentMark) (jm_i_X10_lentMark.2.2.2.2.2.2.2.2.2) = true := by decide +kernel
theorem jm_o_X10_wiperMark : jm_hw (jm_miw jm_i_X10_wiperMark) (jm_i_X10_wiperMark.2.2.2.2.2.2.2.2.2) = true := by decide +kernel
theorem jm_o_X10_mark : jm_hw (jm_miw jm_i_X10_mark) (jm_i_X10_mark.2.2.2.2.2.2.2.2.2) = true := by decide +kernel
theorem jm_o_X10_stamperMark : jm_hw (jm_miw jm_i_X10_stamperMark) (jm_i_X10_stamperMark.2.2.2.2.2.2.2.2.2) = true := by decide +kernel
theorem jm_o_X10_ask : jm_hw (jm_miw jm_i_X10_ask) (jm_i_X10_ask.2.2.2.2.2.2.2.2.2) = true := by decide +kernel
theorem jm_o_X10_trace : jm_hw (jm_miw jm_i_X10_trace) (jm_i_X10_trace.2.2.2.2.2.2.2.2.2) = true := by decide +kernel
theorem jm_o_X10_comings : jm_hw (jm_miw jm_i_X10_comings) (jm_i_X10_comings.2.2.2.2.2.2.2.2.2) = true := by decide +kernel
theorem jm_o_X10_count : jm_hw (jm_miw jm_i_X10_count) (jm_i_X10_count.2.2.2.2.2.2.2.2.2) = true := by decide +kernel
theorem jm_o_X10_status : jm_hw (jm_miw jm_i_X10_status) (jm_i_X10_status.2.2.2.2.2.2.2.2.2) = true := by decide +kernel
theorem jm_o_J6_bitCount_0f7a4 : jm_hw (jm_miw jm_i_J6_bitCount_0f7a4) (jm_i_J6_bitCount_0f7a4.2.2.2.2.2.2.2.2.2) = true := by decide +kernel
