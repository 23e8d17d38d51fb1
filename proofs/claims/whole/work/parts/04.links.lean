/-! LINKS: methods by number, and what the pools mean; checked against the tables by their places -/
abbrev MI : Type := Nat × MethodName × ByteArray × Nat × Option FieldType
def mtab : List MI := [
  (0, yX0_init, cX0_init, 2, none),
  (0, yX0_become, cX0_become, 2, none),
  (0, yX0_has, cX0_has, 2, (some .boolean)),
  (0, yX0_hasAll, cX0_hasAll, 2, (some .boolean)),
  (0, yX0_isFull, cX0_isFull, 1, (some .boolean)),
  (0, yX0_add, cX0_add, 4, (some .int)),
  (0, yX0_bears, cX0_bears, 2, (some .int)),
  (0, yX0_unfit, cX0_unfit, 5, (some .int)),
  (0, yX0_draw, cX0_draw, 1, (some .int)),
  (0, yX0_heldSpots, cX0_heldSpots, 3, (some .int)),
  (1, yX1_bears, cX1_bears, 3, (some .int)),
  (1, yX1_sway, cX1_sway, 4, (some .int)),
  (1, yX1_footprint, cX1_footprint, 3, (some .int)),
  (1, yX1_isUnder, cX1_isUnder, 4, (some .boolean)),
  (2, yX2_init, cX2_init, 1, none),
  (2, yX2_findOrder, cX2_findOrder, 3, (some .boolean)),
  (2, yX2_countOrders, cX2_countOrders, 3, (some .int)),
  (2, yX2_countFalls, cX2_countFalls, 3, (some .int)),
  (2, yX2_findGreatest, cX2_findGreatest, 2, (some .int)),
  (2, yX2_placed, cX2_placed, 2, (some .int)),
  (2, yX2_begin, cX2_begin, 2, none),
  (2, yX2_crosses, cX2_crosses, 3, (some .boolean)),
  (2, yX2_findFirst, cX2_findFirst, 4, (some .boolean)),
  (2, yX2_countSafe, cX2_countSafe, 5, (some .int)),
  (2, yX2_fewestFalls, cX2_fewestFalls, 6, (some .int)),
  (2, yX2_greatest, cX2_greatest, 7, (some .int)),
  (2, yX2_greater, cX2_greater, 3, (some .int)),
  (3, yX3_init, cX3_init, 1, none),
  (3, yX3_put, cX3_put, 2, none),
  (3, yX3_read, cX3_read, 3, (some .int)),
  (3, yX3_place, cX3_place, 1, (some .int)),
  (3, yX3_look, cX3_look, 3, none),
  (3, yX3_readItem, cX3_readItem, 2, (some .boolean)),
  (3, yX3_readWalker, cX3_readWalker, 5, (some .boolean)),
  (3, yX3_readPlank, cX3_readPlank, 3, (some .boolean)),
  (3, yX3_readNew, cX3_readNew, 2, (some .boolean)),
  (3, yX3_isWord, cX3_isWord, 2, (some .boolean)),
  (3, yX3_isNumber, cX3_isNumber, 2, (some .boolean)),
  (3, yX3_split, cX3_split, 5, none),
  (3, yX3_sortOf, cX3_sortOf, 1, (some .int)),
  (3, yX3_begin, cX3_begin, 3, none),
  (3, yX3_grow, cX3_grow, 3, none),
  (3, yX3_nameWords, cX3_nameWords, 2, none),
  (3, yX3_wordNumber, cX3_wordNumber, 3, (some .int)),
  (3, yX3_spells, cX3_spells, 5, (some .boolean)),
  (4, yX4_init, cX4_init, 1, none),
  (4, yX4_finding, cX4_finding, 2, (some .int)),
  (4, yX4_renew, cX4_renew, 5, none),
  (4, yX4_put, cX4_put, 4, none),
  (4, yX4_hasPart, cX4_hasPart, 4, (some .boolean)),
  (4, yX4_tells, cX4_tells, 4, (some .boolean)),
  (5, yX5_init, cX5_init, 1, none),
  (5, yX5_become, cX5_become, 3, none),
  (5, yX5_layRow, cX5_layRow, 3, none),
  (5, yX5_go, cX5_go, 6, (some .int)),
  (6, yX6_init, cX6_init, 1, none),
  (6, yX6_plank, cX6_plank, 4, (some .int)),
  (6, yX6_keeps, cX6_keeps, 2, (some .int)),
  (6, yX6_walker, cX6_walker, 3, (some .int)),
  (6, yX6_of, cX6_of, 3, (some .int)),
  (6, yX6_change, cX6_change, 4, (some .int)),
  (6, yX6_night, cX6_night, 3, (some .int)),
  (6, yX6_cross, cX6_cross, 2, (some .int)),
  (6, yX6_crowd, cX6_crowd, 4, (some .int)),
  (6, yX6_now, cX6_now, 2, (some .int)),
  (6, yX6_would, cX6_would, 2, (some .int)),
  (6, yX6_becomes, cX6_becomes, 2, (some .int)),
  (6, yX6_leaves, cX6_leaves, 3, (some .int)),
  (6, yX6_after, cX6_after, 3, (some .int)),
  (6, yX6_often, cX6_often, 3, (some .int)),
  (6, yX6_balanceFor, cX6_balanceFor, 3, (some .int)),
  (6, yX6_gaits, cX6_gaits, 4, (some .int)),
  (6, yX6_gaitFor, cX6_gaitFor, 3, (some .int)),
  (6, yX6_kindsFor, cX6_kindsFor, 4, (some .int)),
  (6, yX6_order, cX6_order, 3, (some .int)),
  (6, yX6_orders, cX6_orders, 2, (some .int)),
  (6, yX6_fewest, cX6_fewest, 2, (some .int)),
  (6, yX6_most, cX6_most, 1, (some .int)),
  (6, yX6_lay, cX6_lay, 4, (some .int)),
  (6, yX6_best, cX6_best, 6, (some .int)),
  (6, yX6_unlike, cX6_unlike, 3, (some .int)),
  (6, yX6_taken, cX6_taken, 6, (some .int)),
  (6, yX6_fits, cX6_fits, 6, (some .int)),
  (6, yX6_gait, cX6_gait, 5, (some .int)),
  (6, yX6_who, cX6_who, 5, (some .int)),
  (6, yX6_strangers, cX6_strangers, 5, (some .int)),
  (6, yX6_odds, cX6_odds, 6, (some .long)),
  (6, yX6_seed, cX6_seed, 3, (some .int)),
  (6, yX6_feed, cX6_feed, 4, (some .int)),
  (6, yX6_wipe, cX6_wipe, 2, (some .int)),
  (6, yX6_text, cX6_text, 2, (some .int)),
  (6, yX6_hold, cX6_hold, 3, (some .int)),
  (6, yX6_as, cX6_as, 4, (some .int)),
  (6, yX6_sheet, cX6_sheet, 4, (some .int)),
  (6, yX6_write, cX6_write, 5, (some .int)),
  (6, yX6_copy, cX6_copy, 6, (some .int)),
  (6, yX6_load, cX6_load, 4, (some .int)),
  (6, yX6_judge, cX6_judge, 6, (some .int)),
  (6, yX6_image, cX6_image, 1, (some .int)),
  (6, yX6_undo, cX6_undo, 1, (some .int)),
  (6, yX6_tear, cX6_tear, 2, (some .int)),
  (6, yX6_count, cX6_count, 2, (some .int)),
  (6, yX6_status, cX6_status, 2, (some .int)),
  (6, yX6_tell, cX6_tell, 3, (some .int)),
  (6, yX6_isPlank, cX6_isPlank, 1, (some .boolean)),
  (6, yX6_isGait, cX6_isGait, 1, (some .boolean)),
  (6, yX6_isKind, cX6_isKind, 1, (some .boolean)),
  (6, yX6_isSpot, cX6_isSpot, 1, (some .boolean)),
  (6, yX6_isSheet, cX6_isSheet, 1, (some .boolean)),
  (6, yX6_isIn, cX6_isIn, 2, (some .boolean)),
  (6, yX6_held, cX6_held, 1, (some .int)),
  (6, yX6_sum, cX6_sum, 4, (some .int)),
  (6, yX6_replace, cX6_replace, 4, (some .int)),
  (6, yX6_reallyCross, cX6_reallyCross, 3, (some .int)),
  (6, yX6_fallers, cX6_fallers, 3, (some .int)),
  (6, yX6_prepare, cX6_prepare, 2, none),
  (6, yX6_tryWalk, cX6_tryWalk, 2, (some .int)),
  (6, yX6_tryGait, cX6_tryGait, 3, (some .int)),
  (6, yX6_crossesLaid, cX6_crossesLaid, 4, (some .boolean)),
  (6, yX6_layMore, cX6_layMore, 7, (some .int)),
  (6, yX6_difference, cX6_difference, 5, (some .int)),
  (6, yX6_swayFinding, cX6_swayFinding, 4, (some .int)),
  (6, yX6_commonDivisor, cX6_commonDivisor, 6, (some .int)),
  (6, yX6_power, cX6_power, 6, (some .long)),
  (7, yX7_init, cX7_init, 2, none),
  (7, yX7_finding, cX7_finding, 2, (some .int)),
  (7, yX7_within, cX7_within, 3, (some .boolean)),
  (7, yX7_become, cX7_become, 4, (some .int)),
  (7, yX7_copyRow, cX7_copyRow, 3, none),
  (7, yX7_putBack, cX7_putBack, 2, (some .int)),
  (7, yX7_orNone, cX7_orNone, 2, (some .int)),
  (7, yX7_has, cX7_has, 2, (some .boolean)),
  (7, yX7_bits, cX7_bits, 3, (some .int)),
  (7, yX7_held, cX7_held, 1, (some .int)),
  (7, yX7_isPlank, cX7_isPlank, 1, (some .boolean)),
  (7, yX7_isGait, cX7_isGait, 1, (some .boolean)),
  (7, yX7_isWalker, cX7_isWalker, 2, (some .boolean)),
  (7, yX7_isKind, cX7_isKind, 1, (some .boolean)),
  (7, yX7_place, cX7_place, 2, (some .int)),
  (7, yX7_walkerIs, cX7_walkerIs, 3, (some .int)),
  (7, yX7_plank, cX7_plank, 3, (some .int)),
  (7, yX7_keeps, cX7_keeps, 2, (some .int)),
  (7, yX7_comes, cX7_comes, 5, (some .int)),
  (7, yX7_walker, cX7_walker, 3, (some .int)),
  (7, yX7_bears, cX7_bears, 4, (some .int)),
  (7, yX7_doesFall, cX7_doesFall, 3, (some .boolean)),
  (7, yX7_fallsOn, cX7_fallsOn, 4, (some .int)),
  (7, yX7_of, cX7_of, 3, (some .int)),
  (7, yX7_mayBe, cX7_mayBe, 2, (some .boolean)),
  (7, yX7_change, cX7_change, 4, (some .int)),
  (7, yX7_night, cX7_night, 2, (some .int)),
  (7, yX7_changedBy, cX7_changedBy, 4, (some .int)),
  (7, yX7_keptOf, cX7_keptOf, 3, (some .int)),
  (7, yX7_crosses, cX7_crosses, 7, (some .int)),
  (7, yX7_cross, cX7_cross, 2, (some .int)),
  (7, yX7_isSet, cX7_isSet, 2, (some .boolean)),
  (7, yX7_crowd, cX7_crowd, 4, (some .int)),
  (7, yX7_sumOf, cX7_sumOf, 4, (some .int)),
  (7, yX7_keptAll, cX7_keptAll, 3, (some .int)),
  (7, yX7_wouldCross, cX7_wouldCross, 2, (some .int)),
  (7, yX7_wouldFall, cX7_wouldFall, 3, (some .int)),
  (7, yX7_now, cX7_now, 2, (some .int)),
  (7, yX7_would, cX7_would, 2, (some .int)),
  (7, yX7_behind, cX7_behind, 4, (some .int)),
  (7, yX7_becomes, cX7_becomes, 2, (some .int)),
  (7, yX7_leaves, cX7_leaves, 3, (some .int)),
  (7, yX7_areTwo, cX7_areTwo, 3, (some .boolean)),
  (7, yX7_after, cX7_after, 4, (some .int)),
  (7, yX7_often, cX7_often, 3, (some .int)),
  (7, yX7_crossing, cX7_crossing, 7, (some .int)),
  (7, yX7_leastCrossing, cX7_leastCrossing, 7, (some .int)),
  (7, yX7_balanceFor, cX7_balanceFor, 2, (some .int)),
  (7, yX7_gaits, cX7_gaits, 2, (some .int)),
  (7, yX7_gaitFor, cX7_gaitFor, 2, (some .int)),
  (7, yX7_kindsFor, cX7_kindsFor, 5, (some .int)),
  (7, yX7_lay0, cX7_lay0, 3, none),
  (7, yX7_layBack, cX7_layBack, 3, none),
  (7, yX7_goThrough, cX7_goThrough, 7, none),
  (7, yX7_findOrders, cX7_findOrders, 3, none),
  (7, yX7_order, cX7_order, 3, (some .int)),
  (7, yX7_orders, cX7_orders, 2, (some .int)),
  (7, yX7_fewest, cX7_fewest, 2, (some .int)),
  (7, yX7_most, cX7_most, 3, (some .int)),
  (7, yX7_layNew, cX7_layNew, 3, none),
  (7, yX7_lay, cX7_lay, 4, (some .int)),
  (7, yX7_best, cX7_best, 6, (some .int)),
  (7, yX7_unlikeOf, cX7_unlikeOf, 5, (some .int)),
  (7, yX7_unlike, cX7_unlike, 3, (some .int)),
  (7, yX7_taken, cX7_taken, 6, (some .int)),
  (7, yX7_lacks, cX7_lacks, 2, (some .int)),
  (7, yX7_lacksFor, cX7_lacksFor, 3, (some .int)),
  (7, yX7_swaysSo, cX7_swaysSo, 7, (some .boolean)),
  (7, yX7_fitting, cX7_fitting, 8, (some .int)),
  (7, yX7_fits, cX7_fits, 4, (some .int)),
  (7, yX7_gait, cX7_gait, 3, (some .int)),
  (7, yX7_who, cX7_who, 4, (some .int)),
  (7, yX7_drawn, cX7_drawn, 1, (some .int)),
  (7, yX7_strangers, cX7_strangers, 4, (some .int)),
  (7, yX7_odds, cX7_odds, 10, (some .long)),
  (7, yX7_seed, cX7_seed, 2, (some .int)),
  (7, yX7_feed, cX7_feed, 4, (some .int)),
  (7, yX7_wipe, cX7_wipe, 2, (some .int)),
  (7, yX7_byteAt, cX7_byteAt, 2, (some .int)),
  (7, yX7_next, cX7_next, 2, none),
  (7, yX7_isWord, cX7_isWord, 4, (some .boolean)),
  (7, yX7_must, cX7_must, 2, none),
  (7, yX7_number, cX7_number, 4, (some .int)),
  (7, yX7_addItem, cX7_addItem, 5, none),
  (7, yX7_kindTold, cX7_kindTold, 3, (some .int)),
  (7, yX7_afterWord, cX7_afterWord, 3, (some .int)),
  (7, yX7_readItem, cX7_readItem, 3, none),
  (7, yX7_isToldSo, cX7_isToldSo, 4, (some .int)),
  (7, yX7_text, cX7_text, 3, (some .int)),
  (7, yX7_isSpot, cX7_isSpot, 1, (some .boolean)),
  (7, yX7_hold, cX7_hold, 3, (some .int)),
  (7, yX7_as, cX7_as, 4, (some .int)),
  (7, yX7_isSheet, cX7_isSheet, 1, (some .boolean)),
  (7, yX7_cutTo, cX7_cutTo, 2, (some .int)),
  (7, yX7_sheet, cX7_sheet, 5, (some .int)),
  (7, yX7_write, cX7_write, 4, (some .int)),
  (7, yX7_copy, cX7_copy, 7, (some .int)),
  (7, yX7_above, cX7_above, 1, (some .int)),
  (7, yX7_isUnder, cX7_isUnder, 3, (some .boolean)),
  (7, yX7_load, cX7_load, 3, (some .int)),
  (7, yX7_judge, cX7_judge, 6, (some .int)),
  (7, yX7_image, cX7_image, 1, (some .int)),
  (7, yX7_undo, cX7_undo, 1, (some .int)),
  (7, yX7_tear, cX7_tear, 2, (some .int)),
  (7, yX7_count, cX7_count, 4, (some .int)),
  (7, yX7_status, cX7_status, 2, (some .int)),
  (16, yJ6_bitCount_0f7a4, cJ6_bitCount_0f7a4, 1, (some .int)),
  (10, yJ0_length_8abf5, cJ0_length_8abf5, 1, (some .int)),
  (10, yJ0_charAt_5068e, cJ0_charAt_5068e, 2, (some .char)),
  (10, yJ0_coder_7d493, cJ0_coder_7d493, 1, (some .byte)),
  (10, yJ0_isLatin1_aae02, cJ0_isLatin1_aae02, 1, (some .boolean)),
  (10, yJ0_checkIndex_df160, cJ0_checkIndex_df160, 2, none),
  (11, yJ1_charAt_3b067, cJ1_charAt_3b067, 2, (some .char)),
  (12, yJ2_getChar_3b067, cJ2_getChar_3b067, 2, (some .char)),
  (12, yJ2_length_9d52b, cJ2_length_9d52b, 1, (some .int)),
  (12, yJ2_charAt_3b067, cJ2_charAt_3b067, 2, (some .char)),
  (12, yJ2_checkIndex_2214a, cJ2_checkIndex_2214a, 2, none),
  (13, yJ3_checkIndex_8e157, cJ3_checkIndex_8e157, 3, (some .int))]
def mI (j : Nat) : MI := mtab.getD j (99, yL_law, cL_law, 0, none)
def mwords (m : MI) : List Cond := [.initialized m.2.1.cls, .code m.2.1 m.2.2.1 m.2.2.2.1 m.2.2.2.2]
def mplaces : List (List Nat) := [[59, 85], [59, 482], [59, 320], [59, 393], [59, 306], [59, 311], [59, 324], [59, 335], [59, 609], [59, 843], [65, 328], [65, 384], [65, 374], [65, 785], [61, 167], [61, 474], [61, 509], [61, 521], [61, 534], [61, 501], [61, 478], [61, 495], [61, 490], [61, 513], [61, 525], [61, 538], [61, 541], [62, 192], [62, 632], [62, 645], [62, 769], [62, 738], [62, 742], [62, 758], [62, 746], [62, 754], [62, 764], [62, 750], [62, 649], [62, 652], [62, 656], [62, 660], [62, 665], [62, 669], [62, 674], [63, 230], [63, 584], [63, 799], [63, 807], [63, 815], [63, 593], [60, 141], [60, 364], [60, 425], [60, 369], [58, 77], [58, 280], [58, 295], [58, 299], [58, 316], [58, 343], [58, 350], [58, 354], [58, 389], [58, 406], [58, 429], [58, 433], [58, 437], [58, 441], [58, 445], [58, 449], [58, 454], [58, 462], [58, 466], [58, 470], [58, 505], [58, 517], [58, 530], [58, 546], [58, 558], [58, 562], [58, 572], [58, 576], [58, 597], [58, 601], [58, 605], [58, 614], [58, 624], [58, 628], [58, 636], [58, 640], [58, 774], [58, 781], [58, 793], [58, 803], [58, 811], [58, 819], [58, 823], [58, 827], [58, 831], [58, 835], [58, 839], [58, 847], [58, 291], [58, 283], [58, 286], [58, 302], [58, 777], [58, 587], [58, 402], [58, 377], [58, 409], [58, 346], [58, 360], [58, 413], [58, 421], [58, 417], [58, 458], [58, 554], [58, 550], [58, 566], [58, 580], [58, 617], [58, 620], [64, 852], [64, 963], [64, 951], [64, 958], [64, 1072], [64, 1076], [64, 1120], [64, 1053], [64, 1050], [64, 1036], [64, 948], [64, 954], [64, 990], [64, 974], [64, 982], [64, 998], [64, 945], [64, 967], [64, 979], [64, 971], [64, 994], [64, 1007], [64, 1003], [64, 986], [64, 1015], [64, 1012], [64, 1019], [64, 1032], [64, 1039], [64, 1029], [64, 1023], [64, 1047], [64, 1043], [64, 1080], [64, 1061], [64, 1069], [64, 1065], [64, 1057], [64, 1084], [64, 1092], [64, 1088], [64, 1096], [64, 1104], [64, 1100], [64, 1108], [64, 1129], [64, 1116], [64, 1112], [64, 1125], [64, 1133], [64, 1137], [64, 1153], [64, 1157], [64, 1149], [64, 1145], [64, 1141], [64, 1161], [64, 1165], [64, 1169], [64, 1177], [64, 1173], [64, 1181], [64, 1189], [64, 1185], [64, 1193], [64, 1206], [64, 1202], [64, 1218], [64, 1214], [64, 1198], [64, 1222], [64, 1226], [64, 1234], [64, 1230], [64, 1239], [64, 1243], [64, 1247], [64, 1251], [64, 1263], [64, 1259], [64, 1275], [64, 1281], [64, 1290], [64, 1295], [64, 1271], [64, 1286], [64, 1267], [64, 1303], [64, 1255], [64, 1310], [64, 1307], [64, 1314], [64, 1209], [64, 1333], [64, 1325], [64, 1330], [64, 1337], [64, 1320], [64, 1317], [64, 1341], [64, 1345], [64, 1349], [64, 1353], [64, 1357], [64, 1361], [64, 1365], [67, 396], [69, 678], [69, 688], [69, 682], [69, 692], [69, 698], [70, 695], [72, 716], [72, 712], [72, 706], [72, 709], [71, 703]]
def clsN (c : Nat) : String := if c = 0 then RX0 else if c = 1 then RX1 else if c = 2 then RX2 else if c = 3 then RX3 else if c = 4 then RX4 else if c = 5 then RX5 else if c = 6 then RX6 else if c = 7 then RX7 else if c = 10 then RJ0 else if c = 11 then RJ1 else if c = 12 then RJ2 else if c = 13 then RJ3 else if c = 16 then RJ6 else if c = 19 then RJ9 else if c = 20 then RL else ""
/-- (class, index) ↦ (method, what it takes off the stack, whether it answers, how: 10 + class virtual, 1 static, 2 static of a nest mate, 5 arraycopy) -/
def lkTab : List ((Nat × Nat) × Nat × Nat × Nat × Nat) := [
  ((20, 13), 56, 3, 1, 15),
  ((6, 61), 104, 1, 1, 1),
  ((6, 65), 105, 1, 1, 1),
  ((6, 69), 103, 2, 1, 15),
  ((20, 18), 57, 2, 1, 15),
  ((20, 23), 58, 3, 1, 15),
  ((6, 76), 106, 1, 1, 1),
  ((6, 79), 4, 1, 1, 10),
  ((6, 84), 5, 4, 1, 10),
  ((0, 49), 4, 1, 1, 10),
  ((20, 27), 59, 3, 1, 15),
  ((6, 88), 2, 2, 1, 10),
  ((6, 103), 6, 2, 1, 10),
  ((0, 53), 2, 2, 1, 10),
  ((0, 57), 10, 3, 1, 1),
  ((1, 9), 906, 2, 1, 6),
  ((6, 106), 7, 2, 1, 10),
  ((0, 63), 6, 2, 1, 10),
  ((0, 66), 908, 1, 1, 8),
  ((20, 31), 60, 4, 1, 15),
  ((6, 109), 112, 3, 1, 1),
  ((20, 36), 61, 2, 1, 15),
  ((20, 40), 62, 2, 1, 15),
  ((6, 122), 113, 2, 1, 15),
  ((6, 157), 52, 3, 0, 14),
  ((5, 28), 2, 2, 1, 10),
  ((6, 161), 54, 2, 1, 14),
  ((5, 44), 10, 3, 1, 1),
  ((5, 50), 908, 1, 1, 8),
  ((5, 56), 12, 3, 1, 1),
  ((6, 293), 907, 2, 1, 7),
  ((6, 298), 906, 2, 1, 6),
  ((5, 62), 11, 3, 1, 1),
  ((1, 15), 907, 2, 1, 7),
  ((20, 44), 63, 2, 1, 15),
  ((6, 125), 3, 2, 1, 10),
  ((6, 128), 230, 1, 1, 1),
  ((6, 133), 109, 2, 1, 1),
  ((20, 48), 64, 2, 1, 15),
  ((6, 137), 111, 2, 1, 1),
  ((6, 141), 114, 1, 1, 15),
  ((6, 148), 116, 2, 1, 15),
  ((6, 165), 115, 2, 0, 15),
  ((6, 286), 53, 2, 0, 14),
  ((20, 52), 65, 2, 1, 15),
  ((20, 56), 66, 2, 1, 15),
  ((20, 60), 67, 3, 1, 15),
  ((20, 64), 68, 3, 1, 15),
  ((20, 68), 69, 2, 1, 15),
  ((20, 72), 70, 2, 1, 15),
  ((20, 76), 71, 2, 1, 15),
  ((6, 173), 117, 3, 1, 15),
  ((20, 80), 72, 2, 1, 15),
  ((20, 84), 73, 2, 1, 15),
  ((20, 88), 74, 3, 1, 15),
  ((6, 180), 15, 3, 1, 11),
  ((2, 34), 20, 2, 0, 11),
  ((2, 53), 1, 2, 0, 10),
  ((2, 38), 22, 3, 1, 11),
  ((2, 75), 21, 3, 1, 11),
  ((2, 65), 52, 3, 0, 14),
  ((2, 68), 54, 2, 1, 14),
  ((6, 184), 19, 2, 1, 11),
  ((20, 92), 75, 2, 1, 15),
  ((6, 187), 16, 3, 1, 11),
  ((2, 42), 23, 3, 1, 11),
  ((20, 96), 76, 2, 1, 15),
  ((6, 191), 17, 3, 1, 11),
  ((2, 46), 24, 3, 1, 11),
  ((2, 78), 907, 2, 1, 7),
  ((20, 100), 77, 1, 1, 15),
  ((6, 194), 18, 2, 1, 11),
  ((2, 49), 25, 4, 1, 11),
  ((2, 83), 26, 2, 1, 1),
  ((2, 90), 230, 1, 1, 1),
  ((20, 105), 78, 2, 1, 15),
  ((6, 198), 119, 5, 1, 15),
  ((6, 202), 118, 3, 1, 15),
  ((20, 109), 79, 1, 1, 15),
  ((20, 113), 80, 3, 1, 15),
  ((6, 205), 120, 3, 1, 15),
  ((6, 301), 908, 1, 1, 8),
  ((20, 117), 81, 2, 1, 15),
  ((20, 121), 82, 3, 1, 15),
  ((6, 208), 121, 3, 1, 15),
  ((6, 215), 46, 2, 1, 13),
  ((6, 211), 50, 3, 1, 13),
  ((20, 125), 83, 3, 1, 15),
  ((20, 129), 84, 2, 1, 15),
  ((20, 133), 85, 2, 1, 15),
  ((6, 221), 8, 1, 1, 10),
  ((20, 137), 86, 4, 1, 15),
  ((6, 224), 122, 2, 1, 1),
  ((6, 227), 123, 2, 1, 1),
  ((20, 142), 87, 2, 1, 15),
  ((20, 146), 88, 3, 1, 15),
  ((6, 237), 28, 2, 0, 12),
  ((20, 150), 89, 1, 1, 15),
  ((20, 154), 90, 1, 1, 15),
  ((6, 240), 1, 2, 0, 10),
  ((6, 243), 29, 2, 1, 12),
  ((3, 43), 38, 1, 0, 12),
  ((3, 96), 39, 1, 1, 1),
  ((3, 100), 40, 3, 0, 12),
  ((3, 104), 41, 2, 0, 12),
  ((3, 107), 907, 2, 1, 7),
  ((3, 46), 42, 1, 0, 12),
  ((3, 113), 43, 3, 1, 12),
  ((3, 118), 44, 4, 1, 12),
  ((3, 145), 231, 1, 1, 17),
  ((10, 335), 233, 1, 1, 17),
  ((3, 150), 232, 2, 1, 17),
  ((10, 492), 234, 1, 1, 17),
  ((10, 495), 236, 2, 1, 1),
  ((11, 9), 235, 2, 0, 1),
  ((10, 1059), 241, 3, 1, 1),
  ((10, 498), 239, 2, 1, 1),
  ((12, 67), 240, 2, 0, 1),
  ((12, 48), 238, 1, 1, 1),
  ((12, 414), 235, 2, 0, 1),
  ((12, 71), 237, 2, 1, 1),
  ((3, 49), 31, 2, 0, 12),
  ((3, 53), 32, 2, 1, 12),
  ((3, 61), 34, 2, 1, 12),
  ((3, 86), 37, 2, 1, 12),
  ((3, 64), 35, 2, 1, 12),
  ((3, 72), 33, 2, 1, 12),
  ((3, 79), 4, 1, 1, 10),
  ((3, 83), 36, 2, 1, 12),
  ((3, 89), 5, 4, 1, 10),
  ((3, 57), 30, 1, 1, 12),
  ((20, 158), 91, 3, 1, 15),
  ((6, 246), 107, 1, 1, 1),
  ((20, 162), 92, 3, 1, 15),
  ((6, 253), 13, 2, 1, 1),
  ((20, 166), 93, 4, 1, 15),
  ((6, 259), 108, 1, 1, 1),
  ((6, 263), 47, 4, 0, 13),
  ((20, 170), 94, 4, 1, 15),
  ((6, 267), 48, 4, 0, 13),
  ((20, 174), 95, 6, 1, 15),
  ((6, 272), 49, 4, 1, 13),
  ((20, 179), 96, 2, 1, 15),
  ((20, 183), 97, 2, 1, 15),
  ((20, 187), 98, 1, 1, 15),
  ((20, 191), 99, 1, 1, 15),
  ((20, 195), 100, 1, 1, 15),
  ((20, 199), 101, 2, 1, 15),
  ((6, 290), 9, 1, 1, 10),
  ((20, 203), 102, 2, 1, 15),
  ((20, 17), 140, 3, 1, 16),
  ((7, 95), 134, 1, 1, 1),
  ((7, 88), 126, 3, 1, 1),
  ((7, 99), 135, 1, 1, 1),
  ((7, 102), 127, 3, 1, 16),
  ((7, 75), 125, 2, 1, 16),
  ((20, 22), 141, 2, 1, 16),
  ((20, 26), 143, 3, 1, 16),
  ((7, 105), 137, 1, 1, 1),
  ((7, 109), 142, 4, 1, 16),
  ((7, 92), 138, 2, 1, 1),
  ((20, 30), 147, 3, 1, 16),
  ((7, 126), 136, 2, 1, 16),
  ((7, 119), 144, 2, 1, 16),
  ((7, 113), 139, 3, 1, 16),
  ((7, 85), 906, 2, 1, 6),
  ((7, 129), 146, 2, 1, 16),
  ((7, 122), 145, 3, 1, 16),
  ((7, 116), 908, 1, 1, 8),
  ((20, 35), 149, 4, 1, 16),
  ((7, 132), 148, 2, 1, 1),
  ((20, 39), 150, 2, 1, 16),
  ((20, 43), 154, 2, 1, 16),
  ((7, 146), 153, 2, 1, 16),
  ((7, 135), 151, 3, 1, 1),
  ((7, 79), 907, 2, 1, 7),
  ((7, 138), 133, 1, 1, 1),
  ((7, 141), 152, 3, 1, 1),
  ((20, 47), 156, 2, 1, 16),
  ((7, 149), 155, 2, 1, 16),
  ((7, 152), 132, 1, 1, 1),
  ((7, 155), 131, 2, 1, 1),
  ((20, 51), 161, 2, 1, 16),
  ((7, 164), 158, 1, 1, 16),
  ((7, 168), 160, 1, 1, 16),
  ((7, 161), 159, 2, 1, 16),
  ((7, 70), 128, 2, 0, 1),
  ((7, 158), 129, 2, 1, 16),
  ((7, 171), 157, 2, 1, 16),
  ((20, 55), 162, 2, 1, 16),
  ((20, 59), 164, 2, 1, 16),
  ((7, 174), 163, 3, 1, 16),
  ((20, 63), 165, 3, 1, 16),
  ((20, 67), 167, 3, 1, 16),
  ((7, 177), 166, 3, 1, 16),
  ((20, 71), 168, 2, 1, 16),
  ((20, 75), 171, 2, 1, 16),
  ((7, 180), 170, 4, 1, 16),
  ((7, 183), 130, 2, 1, 16),
  ((20, 79), 172, 2, 1, 16),
  ((7, 186), 169, 4, 1, 16),
  ((20, 83), 173, 2, 1, 16),
  ((20, 87), 174, 2, 1, 16),
  ((20, 91), 179, 3, 1, 16),
  ((7, 207), 178, 3, 0, 16),
  ((7, 200), 177, 5, 0, 16),
  ((7, 196), 175, 2, 0, 16),
  ((7, 204), 176, 2, 0, 16),
  ((20, 95), 180, 2, 1, 16),
  ((20, 99), 181, 2, 1, 16),
  ((20, 104), 182, 1, 1, 16),
  ((20, 108), 184, 2, 1, 16),
  ((7, 211), 183, 2, 0, 16),
  ((20, 112), 185, 1, 1, 16),
  ((20, 116), 187, 3, 1, 16),
  ((7, 214), 186, 3, 1, 16),
  ((20, 120), 188, 2, 1, 16),
  ((20, 124), 193, 3, 1, 16),
  ((7, 233), 190, 3, 1, 16),
  ((7, 224), 189, 2, 1, 16),
  ((7, 220), 216, 1, 1, 1),
  ((7, 236), 192, 3, 1, 16),
  ((7, 230), 191, 3, 1, 16),
  ((20, 128), 194, 3, 1, 16),
  ((20, 132), 195, 2, 1, 16),
  ((20, 136), 197, 2, 1, 16),
  ((7, 240), 196, 1, 1, 16),
  ((20, 141), 198, 4, 1, 16),
  ((20, 145), 199, 2, 1, 16),
  ((20, 149), 200, 3, 1, 16),
  ((20, 153), 201, 1, 1, 16),
  ((20, 157), 212, 1, 1, 16),
  ((7, 272), 203, 1, 0, 16),
  ((7, 252), 202, 2, 1, 16),
  ((7, 315), 210, 1, 0, 16),
  ((7, 289), 208, 1, 1, 16),
  ((7, 282), 204, 2, 1, 16),
  ((7, 261), 231, 1, 1, 17),
  ((7, 264), 232, 2, 1, 17),
  ((7, 275), 205, 2, 0, 16),
  ((7, 297), 209, 3, 1, 16),
  ((7, 286), 206, 3, 1, 16),
  ((7, 303), 207, 4, 0, 16),
  ((7, 318), 211, 2, 1, 16),
  ((20, 161), 214, 3, 1, 16),
  ((7, 321), 213, 1, 1, 1),
  ((20, 165), 215, 3, 1, 16),
  ((7, 324), 222, 2, 1, 1),
  ((7, 332), 221, 1, 1, 1),
  ((20, 169), 218, 4, 1, 16),
  ((20, 173), 219, 4, 1, 16),
  ((7, 329), 217, 2, 1, 1),
  ((20, 178), 220, 6, 1, 16),
  ((20, 182), 223, 2, 1, 16),
  ((20, 186), 224, 2, 1, 16),
  ((20, 190), 225, 1, 1, 16),
  ((20, 194), 226, 1, 1, 16),
  ((20, 198), 227, 1, 1, 16),
  ((20, 202), 228, 2, 1, 16),
  ((20, 206), 229, 2, 1, 16),
  ((5, 59), 110, 1, 1, 2),
  ((2, 72), 109, 2, 1, 2),
  ((4, 23), 108, 1, 1, 2),
  ((3, 75), 106, 1, 1, 2),
  ((1, 22), 106, 1, 1, 2),
  ((0, 43), 999, 5, 0, 5),
  ((2, 59), 999, 5, 0, 5),
  ((6, 280), 999, 5, 0, 5)]
def lkPl : List (List Nat) := [[277, 278, 279], [281, 282], [284, 285], [288, 290, 0], [292, 293, 294], [296, 297, 298], [300, 301], [303, 304, 305], [308, 309, 310], [312, 304, 305], [313, 314, 315], [317, 318, 319], [321, 322, 323], [325, 318, 319], [326, 327], [329, 330, 66, 331], [332, 333, 334], [336, 322, 323], [337, 338, 66, 339], [340, 341, 342], [344, 345], [347, 348, 349], [351, 352, 353], [357, 359, 1], [361, 362, 363], [365, 318, 319], [366, 367, 368], [370, 327], [371, 338, 66, 339], [372, 373], [378, 379, 66, 380], [381, 330, 66, 331], [382, 383], [385, 379, 66, 380], [386, 387, 388], [390, 391, 392], [394, 395], [400, 401], [403, 404, 405], [407, 408], [410, 412, 2], [414, 416, 3], [418, 420, 4], [422, 423, 424], [426, 427, 428], [430, 431, 432], [434, 435, 436], [438, 439, 440], [442, 443, 444], [446, 447, 448], [451, 452, 453], [455, 457, 5], [459, 460, 461], [463, 464, 465], [467, 468, 469], [471, 472, 473], [475, 477, 6], [479, 480, 481], [487, 489, 7], [492, 494, 8], [496, 362, 363], [497, 367, 368], [498, 499, 500], [502, 503, 504], [506, 507, 508], [510, 512, 9], [514, 515, 516], [518, 519, 520], [522, 524, 10], [526, 379, 66, 380], [527, 528, 529], [531, 532, 533], [535, 537, 11], [539, 540], [542, 395], [543, 544, 545], [547, 549, 12], [551, 553, 13], [555, 556, 557], [559, 560, 561], [563, 565, 14], [568, 338, 66, 339], [569, 570, 571], [573, 574, 575], [577, 579, 15], [581, 582, 583], [590, 591, 592], [594, 595, 596], [598, 599, 600], [602, 603, 604], [606, 607, 608], [611, 612, 613], [615, 616], [618, 619], [621, 622, 623], [625, 626, 627], [629, 630, 631], [633, 634, 635], [637, 638, 639], [641, 480, 481], [642, 643, 644], [646, 647, 648], [650, 651], [653, 654, 655], [657, 658, 659], [661, 379, 66, 380], [662, 663, 664], [666, 667, 668], [671, 672, 673], [675, 676, 677], [679, 680, 681], [685, 686, 687], [689, 690, 691], [693, 694], [696, 697], [701, 702], [704, 705], [707, 708], [710, 711], [713, 697], [714, 715], [735, 736, 737], [739, 740, 741], [743, 744, 745], [747, 748, 749], [751, 752, 753], [755, 756, 757], [760, 304, 305], [761, 762, 763], [765, 309, 310], [766, 767, 768], [771, 772, 773], [775, 776], [778, 779, 780], [783, 784], [790, 791, 792], [794, 586], [796, 797, 798], [800, 801, 802], [804, 805, 806], [808, 809, 810], [812, 813, 814], [816, 817, 818], [820, 821, 822], [824, 825, 826], [828, 829, 830], [832, 833, 834], [836, 837, 838], [840, 841, 842], [844, 845, 846], [942, 943, 944], [946, 947], [949, 950], [952, 953], [955, 957, 16], [960, 962, 17], [964, 965, 966], [968, 969, 970], [972, 973], [976, 978, 18], [980, 981], [983, 984, 985], [987, 989, 19], [991, 993, 20], [995, 997, 21], [999, 330, 66, 331], [1000, 1002, 22], [1004, 1006, 23], [1008, 338, 66, 339], [1009, 1010, 1011], [1013, 1014], [1016, 1017, 1018], [1020, 1021, 1022], [1026, 1028, 24], [1030, 1031], [1033, 379, 66, 380], [1034, 1035], [1037, 1038], [1040, 1041, 1042], [1044, 1046, 25], [1048, 1049], [1051, 1052], [1054, 1055, 1056], [1058, 1060, 26], [1062, 1064, 27], [1066, 1068, 28], [1070, 1071], [1073, 1075, 29], [1077, 1079, 30], [1081, 1082, 1083], [1085, 1086, 1087], [1089, 1091, 31], [1093, 1094, 1095], [1097, 1098, 1099], [1101, 1103, 32], [1105, 1106, 1107], [1109, 1110, 1111], [1113, 1115, 33], [1117, 1119, 34], [1122, 1123, 1124], [1126, 1128, 35], [1130, 1131, 1132], [1134, 1135, 1136], [1138, 1139, 1140], [1142, 1144, 36], [1146, 1148, 37], [1150, 1152, 38], [1154, 1156, 39], [1158, 1159, 1160], [1162, 1163, 1164], [1166, 1167, 1168], [1170, 1171, 1172], [1174, 1176, 40], [1178, 1179, 1180], [1182, 1183, 1184], [1186, 1188, 41], [1190, 1191, 1192], [1195, 1196, 1197], [1199, 1201, 42], [1203, 1205, 43], [1207, 1208], [1211, 1213, 44], [1215, 1217, 45], [1219, 1220, 1221], [1223, 1224, 1225], [1227, 1228, 1229], [1231, 1233, 46], [1236, 1237, 1238], [1240, 1241, 1242], [1244, 1245, 1246], [1248, 1249, 1250], [1252, 1253, 1254], [1256, 1258, 47], [1260, 1262, 48], [1264, 1266, 49], [1268, 1270, 50], [1272, 1274, 51], [1276, 676, 677], [1277, 686, 687], [1278, 1280, 52], [1283, 1285, 53], [1287, 1289, 54], [1292, 1294, 55], [1300, 1302, 56], [1304, 1305, 1306], [1308, 1309], [1311, 1312, 1313], [1315, 1316], [1318, 1319], [1322, 1323, 1324], [1327, 1328, 1329], [1331, 1332], [1334, 1335, 1336], [1338, 1339, 1340], [1342, 1343, 1344], [1346, 1347, 1348], [1350, 1351, 1352], [1354, 1355, 1356], [1358, 1359, 1360], [1362, 1363, 1364], [376], [401], [586], [301], [301], [483, 485, 484, 68], [486, 485, 484, 68], [567, 485, 484, 68]]
def lkWords (e : (Nat × Nat) × Nat × Nat × Nat × Nat) : List Cond :=
  if 10 ≤ e.2.2.2.2 then [.methodLink (clsN e.1.1) e.1.2 (mI e.2.1).2.1, .instanceMethod (mI e.2.1).2.1, .selects (mI e.2.1).2.1.cls (mI e.2.1).2.1 (mI e.2.1).2.1]
  else if e.2.2.2.2 = 1 then [.methodLink (clsN e.1.1) e.1.2 (mI e.2.1).2.1, .static (mI e.2.1).2.1]
  else if e.2.2.2.2 = 2 then [.static (mI e.2.1).2.1]
  else if e.2.2.2.2 = 6 then [.methodLink (clsN e.1.1) e.1.2 Lib.Math.max.name, .static Lib.Math.max.name, .initialized "java/lang/Math", .code Lib.Math.max.name Lib.Math.max.code 2 (some .int)]
  else if e.2.2.2.2 = 7 then [.methodLink (clsN e.1.1) e.1.2 Lib.Math.min.name, .static Lib.Math.min.name, .initialized "java/lang/Math", .code Lib.Math.min.name Lib.Math.min.code 2 (some .int)]
  else if e.2.2.2.2 = 8 then [.methodLink (clsN e.1.1) e.1.2 Lib.Math.abs.name, .static Lib.Math.abs.name, .initialized "java/lang/Math", .code Lib.Math.abs.name Lib.Math.abs.code 1 (some .int)]
  else [.methodLink (clsN e.1.1) e.1.2 arraycopyName, .native arraycopyName, .static arraycopyName, .initialized "java/lang/System"]
def lkArgs (e : (Nat × Nat) × Nat × Nat × Nat × Nat) : Bool := (decide (5 ≤ e.2.2.2.2) && decide (e.2.2.2.2 < 10)) || (decide (e.2.1 < 242) && decide ((parseMethodDescriptor (mI e.2.1).2.1.desc).map (fun d => d.parameters.length) = some (if 10 ≤ e.2.2.2.2 then e.2.2.1 - 1 else e.2.2.1)) && decide (0 < e.2.2.1 ∨ e.2.2.2.2 < 10) && decide (e.2.2.2.2 < 10 ∨ (mI e.2.1).2.1.cls = (vwCl.getD (e.2.2.2.2 - 10) ("java/lang/String", TX0, 0)).1) && decide ((e.2.2.2.1 = 0) ↔ (mI e.2.1).2.2.2.2 = none))
def mArgs (m : MI) : Bool := decide (m.2.1.cls ≠ "java/lang/invoke/MethodHandle") && decide (m.2.1.cls ≠ "java/lang/invoke/VarHandle") && decide (m.2.1.cls = clsN m.1) && plainName m.2.1.cls && decide (m.2.2.2.1 ≤ 40)
def gT : List Cond := lw_tbl.filter goodWord
def okPl (ws : List Cond) (ps : List Nat) : Bool := decide (ws = ps.filterMap (fun i => lw_tbl[i]?)) && ws.all goodWord
theorem okPl_in {ws : List Cond} {ps : List Nat} (h : okPl ws ps = true) : ∀ w ∈ ws, w ∈ gT := by
  intro w hw
  unfold okPl at h
  rw [Bool.and_eq_true] at h
  have h1 : ws = ps.filterMap (fun i => lw_tbl[i]?) := of_decide_eq_true h.1
  have h2 := List.all_eq_true.mp h.2 w hw
  rw [h1] at hw
  obtain ⟨i, -, hi⟩ := List.mem_filterMap.mp hw
  exact List.mem_filter.mpr ⟨List.mem_of_getElem? hi, h2⟩
set_option maxRecDepth 100000 in
theorem mok_0 : (((List.range 41).map (· + 0)).all (fun j => okPl (mwords (mI j)) (mplaces.getD j []) && mArgs (mI j))) = true := by decide +kernel
set_option maxRecDepth 100000 in
theorem mok_41 : (((List.range 41).map (· + 41)).all (fun j => okPl (mwords (mI j)) (mplaces.getD j []) && mArgs (mI j))) = true := by decide +kernel
set_option maxRecDepth 100000 in
theorem mok_82 : (((List.range 41).map (· + 82)).all (fun j => okPl (mwords (mI j)) (mplaces.getD j []) && mArgs (mI j))) = true := by decide +kernel
set_option maxRecDepth 100000 in
theorem mok_123 : (((List.range 41).map (· + 123)).all (fun j => okPl (mwords (mI j)) (mplaces.getD j []) && mArgs (mI j))) = true := by decide +kernel
set_option maxRecDepth 100000 in
theorem mok_164 : (((List.range 41).map (· + 164)).all (fun j => okPl (mwords (mI j)) (mplaces.getD j []) && mArgs (mI j))) = true := by decide +kernel
set_option maxRecDepth 100000 in
theorem mok_205 : (((List.range 37).map (· + 205)).all (fun j => okPl (mwords (mI j)) (mplaces.getD j []) && mArgs (mI j))) = true := by decide +kernel
def NM : Nat := 242
theorem mok {j : Nat} (h0 : j < NM) : (∀ w ∈ mwords (mI j), w ∈ gT) ∧ mArgs (mI j) = true := by
  have h : j < 242 := h0
  have key : ∀ (a n : Nat), (((List.range n).map (· + a)).all (fun j => okPl (mwords (mI j)) (mplaces.getD j []) && mArgs (mI j))) = true → a ≤ j → j < a + n → (∀ w ∈ mwords (mI j), w ∈ gT) ∧ mArgs (mI j) = true := by
    intro a n hh h1 h2
    have h3 := List.all_eq_true.mp hh j (List.mem_map.mpr ⟨j - a, List.mem_range.mpr (by omega), by omega⟩)
    rw [Bool.and_eq_true] at h3
    exact ⟨okPl_in h3.1, h3.2⟩
  rcases Nat.lt_or_ge j 41 with q | q
  · exact key 0 41 mok_0 (by omega) (by omega)
  rcases Nat.lt_or_ge j 82 with q | q
  · exact key 41 41 mok_41 (by omega) (by omega)
  rcases Nat.lt_or_ge j 123 with q | q
  · exact key 82 41 mok_82 (by omega) (by omega)
  rcases Nat.lt_or_ge j 164 with q | q
  · exact key 123 41 mok_123 (by omega) (by omega)
  rcases Nat.lt_or_ge j 205 with q | q
  · exact key 164 41 mok_164 (by omega) (by omega)
  exact key 205 37 mok_205 (by omega) (by omega)
set_option maxRecDepth 100000 in
theorem lok_0 : (((lkTab.drop 0).take 41).zip ((lkPl.drop 0).take 41)).all (fun e => okPl (lkWords e.1) e.2 && lkArgs e.1) = true := by decide +kernel
set_option maxRecDepth 100000 in
theorem lok_41 : (((lkTab.drop 41).take 41).zip ((lkPl.drop 41).take 41)).all (fun e => okPl (lkWords e.1) e.2 && lkArgs e.1) = true := by decide +kernel
set_option maxRecDepth 100000 in
theorem lok_82 : (((lkTab.drop 82).take 41).zip ((lkPl.drop 82).take 41)).all (fun e => okPl (lkWords e.1) e.2 && lkArgs e.1) = true := by decide +kernel
set_option maxRecDepth 100000 in
theorem lok_123 : (((lkTab.drop 123).take 41).zip ((lkPl.drop 123).take 41)).all (fun e => okPl (lkWords e.1) e.2 && lkArgs e.1) = true := by decide +kernel
set_option maxRecDepth 100000 in
theorem lok_164 : (((lkTab.drop 164).take 41).zip ((lkPl.drop 164).take 41)).all (fun e => okPl (lkWords e.1) e.2 && lkArgs e.1) = true := by decide +kernel
set_option maxRecDepth 100000 in
theorem lok_205 : (((lkTab.drop 205).take 41).zip ((lkPl.drop 205).take 41)).all (fun e => okPl (lkWords e.1) e.2 && lkArgs e.1) = true := by decide +kernel
set_option maxRecDepth 100000 in
theorem lok_246 : (((lkTab.drop 246).take 22).zip ((lkPl.drop 246).take 22)).all (fun e => okPl (lkWords e.1) e.2 && lkArgs e.1) = true := by decide +kernel
def cres (c i : Nat) : Option (Nat × Nat × Nat × Nat) := lkTab.lookup (c, i)
theorem lk_len : lkTab.length = 268 ∧ lkPl.length = 268 := by decide +kernel
theorem lk_at {k : Nat} {e : (Nat × Nat) × Nat × Nat × Nat × Nat} (h : lkTab[k]? = some e) : (∀ w ∈ lkWords e, w ∈ gT) ∧ lkArgs e = true := by
  have hk : k < 268 := by
    have := (List.getElem?_eq_some_iff.mp h).1
    rw [lk_len.1] at this
    exact this
  obtain ⟨q, hq⟩ : ∃ q, lkPl[k]? = some q := ⟨_, List.getElem?_eq_getElem (by rw [lk_len.2]; exact hk)⟩
  have key : ∀ (a n : Nat), (((lkTab.drop a).take n).zip ((lkPl.drop a).take n)).all (fun e => okPl (lkWords e.1) e.2 && lkArgs e.1) = true → a ≤ k → k < a + n → (∀ w ∈ lkWords e, w ∈ gT) ∧ lkArgs e = true := by
    intro a n hh h1 h2
    have hm : (e, q) ∈ ((lkTab.drop a).take n).zip ((lkPl.drop a).take n) := by
      apply List.mem_of_getElem? (i := k - a)
      rw [List.getElem?_zip_eq_some]
      constructor
      · rw [List.getElem?_take_of_lt (by omega), List.getElem?_drop, show a + (k - a) = k by omega]; exact h
      · rw [List.getElem?_take_of_lt (by omega), List.getElem?_drop, show a + (k - a) = k by omega]; exact hq
    have h3 := List.all_eq_true.mp hh _ hm
    rw [Bool.and_eq_true] at h3
    exact ⟨okPl_in h3.1, h3.2⟩
  rcases Nat.lt_or_ge k 41 with z | z
  · exact key 0 41 lok_0 (by omega) (by omega)
  rcases Nat.lt_or_ge k 82 with z | z
  · exact key 41 41 lok_41 (by omega) (by omega)
  rcases Nat.lt_or_ge k 123 with z | z
  · exact key 82 41 lok_82 (by omega) (by omega)
  rcases Nat.lt_or_ge k 164 with z | z
  · exact key 123 41 lok_123 (by omega) (by omega)
  rcases Nat.lt_or_ge k 205 with z | z
  · exact key 164 41 lok_164 (by omega) (by omega)
  rcases Nat.lt_or_ge k 246 with z | z
  · exact key 205 41 lok_205 (by omega) (by omega)
  exact key 246 22 lok_246 (by omega) (by omega)
theorem lk_mem {α β : Type} [BEq α] [LawfulBEq α] {l : List (α × β)} {a : α} {b : β} (h : l.lookup a = some b) : ∃ k : Nat, l[k]? = some (a, b) := by
  induction l with
  | nil => cases h
  | cons x l ih =>
    obtain ⟨x1, x2⟩ := x
    rw [List.lookup_cons] at h
    by_cases e : a == x1
    · rw [e] at h
      cases h
      refine ⟨0, ?_⟩
      rw [eq_of_beq e]
      rfl
    · rw [Bool.not_eq_true] at e
      rw [e] at h
      obtain ⟨k, hk⟩ := ih h
      exact ⟨k + 1, by simpa using hk⟩
theorem cres_ok {c i : Nat} {e : Nat × Nat × Nat × Nat} (h : cres c i = some e) : (∀ w ∈ lkWords ((c, i), e), w ∈ gT) ∧ lkArgs ((c, i), e) = true := by
  obtain ⟨k, hk⟩ := lk_mem h
  exact lk_at hk
/-- (class, index) ↦ (class of the world, slot) -/
def fTab : List ((Nat × Nat) × Nat × Nat) := [((0, 9), 0, 0), ((6, 73), 0, 0), ((2, 56), 0, 0), ((3, 93), 0, 0), ((0, 15), 0, 1), ((5, 34), 0, 1), ((6, 91), 0, 1), ((0, 18), 0, 2), ((5, 37), 0, 2), ((6, 94), 0, 2), ((0, 21), 0, 3), ((5, 40), 0, 3), ((6, 97), 0, 3), ((0, 24), 0, 4), ((6, 100), 0, 4), ((0, 27), 0, 5), ((6, 249), 0, 5), ((0, 30), 0, 6), ((6, 145), 0, 6), ((2, 86), 0, 6), ((0, 34), 0, 7), ((5, 43), 0, 7), ((3, 67), 0, 7), ((6, 113), 0, 7), ((0, 37), 0, 8), ((6, 117), 0, 8), ((0, 40), 0, 9), ((6, 231), 0, 9), ((5, 9), 4, 0), ((6, 154), 4, 0), ((5, 15), 4, 1), ((6, 177), 4, 1), ((5, 19), 4, 2), ((6, 151), 4, 2), ((5, 22), 4, 3), ((6, 169), 4, 3), ((5, 25), 4, 4), ((2, 12), 1, 0), ((2, 21), 1, 1), ((2, 27), 1, 2), ((2, 30), 1, 3), ((3, 9), 2, 0), ((3, 15), 2, 1), ((6, 234), 2, 1), ((3, 19), 2, 2), ((3, 22), 2, 3), ((3, 25), 2, 4), ((3, 28), 2, 5), ((3, 31), 2, 6), ((3, 34), 2, 7), ((3, 37), 2, 8), ((3, 40), 2, 9), ((4, 11), 3, 0), ((6, 276), 3, 0), ((4, 16), 3, 1), ((6, 269), 3, 1), ((4, 20), 3, 2), ((6, 218), 3, 2), ((6, 12), 5, 0), ((6, 16), 5, 1), ((6, 19), 5, 2), ((6, 25), 5, 3), ((6, 29), 5, 4), ((6, 36), 5, 5), ((6, 43), 5, 6), ((6, 50), 5, 7), ((6, 54), 5, 8), ((6, 57), 5, 9), ((7, 9), 6, 0), ((7, 13), 6, 1), ((7, 16), 6, 2), ((7, 335), 6, 3), ((7, 19), 6, 4), ((7, 22), 6, 5), ((7, 25), 6, 6), ((7, 28), 6, 7), ((7, 189), 6, 8), ((7, 193), 6, 9), ((7, 227), 6, 10), ((7, 31), 6, 11), ((7, 243), 6, 12), ((7, 249), 6, 13), ((7, 246), 6, 14), ((7, 258), 6, 15), ((7, 255), 6, 16), ((7, 268), 6, 17), ((7, 50), 6, 18), ((7, 54), 6, 19), ((7, 279), 6, 20), ((7, 292), 6, 21), ((7, 57), 6, 22), ((7, 60), 6, 23), ((7, 63), 6, 24), ((7, 66), 6, 25)]
def fPl : List Nat := [87, 88, 89, 90, 91, 92, 93, 94, 95, 96, 97, 98, 99, 100, 101, 102, 103, 104, 105, 106, 107, 108, 109, 110, 111, 112, 113, 114, 143, 144, 145, 146, 147, 148, 149, 150, 151, 175, 176, 177, 178, 194, 195, 196, 197, 198, 199, 200, 201, 202, 203, 204, 233, 234, 235, 236, 237, 238, 246, 247, 248, 249, 250, 251, 252, 253, 254, 255, 863, 864, 865, 866, 867, 868, 869, 870, 871, 872, 873, 874, 875, 876, 877, 878, 879, 880, 881, 882, 883, 884, 885, 886, 887, 888]
def fTk (ci k : Nat) : String × String × String × Bool := (vwCl.getD ci (RX0, TX0, 0)).2.1 k
def fWord (e : (Nat × Nat) × Nat × Nat) : Cond := .fieldLink (clsN e.1.1) e.1.2 (fTk e.2.1 e.2.2).1 (fTk e.2.1 e.2.2).2.1 (fTk e.2.1 e.2.2).2.2.1
set_option maxRecDepth 100000 in
theorem fok : (fTab.zip fPl).all (fun e => okPl [fWord e.1] [e.2] && decide (e.1.2.1 < 7 ∧ e.1.2.2 < (vwCl.getD e.1.2.1 (RX0, TX0, 0)).2.2)) = true := by decide +kernel
theorem f_len : fTab.length = 94 ∧ fPl.length = 94 := by decide +kernel
def fres (c i : Nat) : Option (Nat × Nat) := fTab.lookup (c, i)
theorem fres_ok {c i : Nat} {e : Nat × Nat} (h : fres c i = some e) : fWord ((c, i), e) ∈ gT ∧ e.1 < 7 ∧ e.2 < (vwCl.getD e.1 (RX0, TX0, 0)).2.2 := by
  obtain ⟨k, hk⟩ := lk_mem h
  have hl := (List.getElem?_eq_some_iff.mp hk).1
  rw [f_len.1] at hl
  obtain ⟨q, hq⟩ : ∃ q, fPl[k]? = some q := ⟨_, List.getElem?_eq_getElem (by rw [f_len.2]; exact hl)⟩
  have hm : (((c, i), e), q) ∈ fTab.zip fPl := List.mem_of_getElem? (i := k) (List.getElem?_zip_eq_some.mpr ⟨hk, hq⟩)
  have h3 := List.all_eq_true.mp fok _ hm
  rw [Bool.and_eq_true] at h3
  exact ⟨okPl_in h3.1 _ List.mem_cons_self, of_decide_eq_true h3.2⟩
def kTab : List ((Nat × Nat) × Int32) := [((6, 68), (-1000001)), ((6, 83), (-1000002)), ((6, 120), (99999)), ((6, 121), (-1000005)), ((16, 265), (1431655765)), ((16, 266), (858993459)), ((16, 267), (252645135)), ((6, 172), (-1000004)), ((4, 27), (-1000001)), ((4, 28), (-1000006)), ((0, 71), (1103515245)), ((6, 252), (-1000006)), ((6, 258), (-1000003)), ((6, 262), (-1000007)), ((7, 69), (-1000001)), ((7, 108), (-1000002)), ((7, 144), (99999)), ((7, 145), (-1000005)), ((7, 74), (-1000004)), ((7, 219), (2147483647)), ((7, 223), (-1000006)), ((7, 239), (1103515245)), ((7, 327), (-1000003)), ((7, 328), (-1000007))]
def kPl : List Nat := [287, 307, 355, 356, 397, 398, 399, 450, 588, 589, 610, 782, 789, 795, 959, 975, 1024, 1025, 1121, 1194, 1210, 1235, 1321, 1326]
set_option maxRecDepth 100000 in
theorem kok : (kTab.zip kPl).all (fun e => okPl [.constant (clsN e.1.1.1) e.1.1.2 e.1.2] [e.2]) = true := by decide +kernel
theorem k_len : kTab.length = 24 ∧ kPl.length = 24 := by decide +kernel
def kres (c i : Nat) : Option Int32 := kTab.lookup (c, i)
theorem kres_ok {c i : Nat} {v : Int32} (h : kres c i = some v) : Cond.constant (clsN c) i v ∈ gT := by
  obtain ⟨k, hk⟩ := lk_mem h
  have hl := (List.getElem?_eq_some_iff.mp hk).1
  rw [k_len.1] at hl
  obtain ⟨q, hq⟩ : ∃ q, kPl[k]? = some q := ⟨_, List.getElem?_eq_getElem (by rw [k_len.2]; exact hl)⟩
  have hm : (((c, i), v), q) ∈ kTab.zip kPl := List.mem_of_getElem? (i := k) (List.getElem?_zip_eq_some.mpr ⟨hk, hq⟩)
  have h3 := List.all_eq_true.mp kok _ hm
  exact okPl_in h3 _ List.mem_cons_self
/-- string constants: (class, index) ↦ the text's number -/
def sTab : List ((Nat × Nat) × Nat) := [((3, 116), 0), ((3, 122), 1), ((3, 124), 2), ((3, 126), 3), ((3, 128), 4), ((3, 130), 5), ((3, 132), 6), ((3, 134), 7), ((3, 136), 8), ((3, 138), 9), ((3, 139), 10), ((3, 141), 11), ((3, 143), 12), ((7, 36), 0), ((7, 38), 1), ((7, 40), 2), ((7, 42), 3), ((7, 44), 4), ((7, 46), 5), ((7, 48), 6), ((7, 295), 11), ((7, 301), 12), ((7, 307), 7), ((7, 309), 8), ((7, 311), 9), ((7, 313), 10)]
def sTx : List String := ["walker", "drunk", "marcher", "dancer", "mourner", "calm", "carried", "plank", "new", "night", "day", "gait", "balance"]
def sBy : List (List Int32) := [[119, 97, 108, 107, 101, 114], [100, 114, 117, 110, 107], [109, 97, 114, 99, 104, 101, 114], [100, 97, 110, 99, 101, 114], [109, 111, 117, 114, 110, 101, 114], [99, 97, 108, 109], [99, 97, 114, 114, 105, 101, 100], [112, 108, 97, 110, 107], [110, 101, 119], [110, 105, 103, 104, 116], [100, 97, 121], [103, 97, 105, 116], [98, 97, 108, 97, 110, 99, 101]]
def sres (c i : Nat) : Option Nat := sTab.lookup (c, i)
def gsI : Nat × Nat := (1, 18)
def gsW : Cond := .fieldLinkNest (clsN gsI.1) gsI.2 "FeetBridge" "KIND_ABOVE" "[I" "FeetBridge"
theorem gs_in : gsW ∈ lw_tbl := List.mem_of_getElem? (i := 786) (by decide +kernel)
def nestW (c i j : Nat) : Cond := .methodLinkNest (clsN c) i (mI j).2.1 RX6
def nTab : List (Nat × Nat × Nat) := [(5, 59, 110), (2, 72, 109), (4, 23, 108), (3, 75, 106), (1, 22, 106)]
theorem n_in : ∀ e ∈ nTab, nestW e.1 e.2.1 e.2.2 ∈ lw_tbl := by
  have h : (nTab.zip [375, 491, 585, 759, 788]).all (fun e => decide (lw_tbl[e.2]? = some (nestW e.1.1 e.1.2.1 e.1.2.2))) = true := by decide +kernel
  intro e he
  obtain ⟨k, hk⟩ := List.getElem?_of_mem he
  have hl := (List.getElem?_eq_some_iff.mp hk).1
  obtain ⟨q, hq⟩ : ∃ q, ([375, 491, 585, 759, 788] : List Nat)[k]? = some q := ⟨_, List.getElem?_eq_getElem (by exact hl)⟩
  have h3 := List.all_eq_true.mp h (e, q) (List.mem_of_getElem? (i := k) (List.getElem?_zip_eq_some.mpr ⟨hk, hq⟩))
  exact List.mem_of_getElem? (of_decide_eq_true h3)
theorem n_all {c i j n r : Nat} (h : cres c i = some (j, n, r, 2)) : (c, i, j) ∈ nTab := by
  have hh : lkTab.all (fun e => decide (e.2.2.2.2 ≠ 2) || decide ((e.1.1, e.1.2, e.2.1) ∈ nTab)) = true := by decide +kernel
  obtain ⟨k, hk⟩ := lk_mem h
  have h3 := List.all_eq_true.mp hh _ (List.mem_of_getElem? hk)
  simpa using h3
theorem cr_20_13 : cres 20 13 = some (56, 3, 1, 15) := by decide +kernel
theorem cr_6_61 : cres 6 61 = some (104, 1, 1, 1) := by decide +kernel
theorem cr_6_65 : cres 6 65 = some (105, 1, 1, 1) := by decide +kernel
theorem cr_6_69 : cres 6 69 = some (103, 2, 1, 15) := by decide +kernel
theorem cr_20_18 : cres 20 18 = some (57, 2, 1, 15) := by decide +kernel
theorem cr_20_23 : cres 20 23 = some (58, 3, 1, 15) := by decide +kernel
theorem cr_6_76 : cres 6 76 = some (106, 1, 1, 1) := by decide +kernel
theorem cr_6_79 : cres 6 79 = some (4, 1, 1, 10) := by decide +kernel
theorem cr_6_84 : cres 6 84 = some (5, 4, 1, 10) := by decide +kernel
theorem cr_0_49 : cres 0 49 = some (4, 1, 1, 10) := by decide +kernel
theorem cr_20_27 : cres 20 27 = some (59, 3, 1, 15) := by decide +kernel
theorem cr_6_88 : cres 6 88 = some (2, 2, 1, 10) := by decide +kernel
theorem cr_6_103 : cres 6 103 = some (6, 2, 1, 10) := by decide +kernel
theorem cr_0_53 : cres 0 53 = some (2, 2, 1, 10) := by decide +kernel
theorem cr_0_57 : cres 0 57 = some (10, 3, 1, 1) := by decide +kernel
theorem cr_1_9 : cres 1 9 = some (906, 2, 1, 6) := by decide +kernel
theorem cr_6_106 : cres 6 106 = some (7, 2, 1, 10) := by decide +kernel
theorem cr_0_63 : cres 0 63 = some (6, 2, 1, 10) := by decide +kernel
theorem cr_0_66 : cres 0 66 = some (908, 1, 1, 8) := by decide +kernel
theorem cr_20_31 : cres 20 31 = some (60, 4, 1, 15) := by decide +kernel
theorem cr_6_109 : cres 6 109 = some (112, 3, 1, 1) := by decide +kernel
theorem cr_20_36 : cres 20 36 = some (61, 2, 1, 15) := by decide +kernel
theorem cr_20_40 : cres 20 40 = some (62, 2, 1, 15) := by decide +kernel
theorem cr_6_122 : cres 6 122 = some (113, 2, 1, 15) := by decide +kernel
theorem cr_6_157 : cres 6 157 = some (52, 3, 0, 14) := by decide +kernel
theorem cr_5_28 : cres 5 28 = some (2, 2, 1, 10) := by decide +kernel
theorem cr_6_161 : cres 6 161 = some (54, 2, 1, 14) := by decide +kernel
theorem cr_5_44 : cres 5 44 = some (10, 3, 1, 1) := by decide +kernel
theorem cr_5_50 : cres 5 50 = some (908, 1, 1, 8) := by decide +kernel
theorem cr_5_56 : cres 5 56 = some (12, 3, 1, 1) := by decide +kernel
theorem cr_6_293 : cres 6 293 = some (907, 2, 1, 7) := by decide +kernel
theorem cr_6_298 : cres 6 298 = some (906, 2, 1, 6) := by decide +kernel
theorem cr_5_62 : cres 5 62 = some (11, 3, 1, 1) := by decide +kernel
theorem cr_1_15 : cres 1 15 = some (907, 2, 1, 7) := by decide +kernel
theorem cr_20_44 : cres 20 44 = some (63, 2, 1, 15) := by decide +kernel
theorem cr_6_125 : cres 6 125 = some (3, 2, 1, 10) := by decide +kernel
theorem cr_6_128 : cres 6 128 = some (230, 1, 1, 1) := by decide +kernel
theorem cr_6_133 : cres 6 133 = some (109, 2, 1, 1) := by decide +kernel
theorem cr_20_48 : cres 20 48 = some (64, 2, 1, 15) := by decide +kernel
theorem cr_6_137 : cres 6 137 = some (111, 2, 1, 1) := by decide +kernel
theorem cr_6_141 : cres 6 141 = some (114, 1, 1, 15) := by decide +kernel
theorem cr_6_148 : cres 6 148 = some (116, 2, 1, 15) := by decide +kernel
theorem cr_6_165 : cres 6 165 = some (115, 2, 0, 15) := by decide +kernel
theorem cr_6_286 : cres 6 286 = some (53, 2, 0, 14) := by decide +kernel
theorem cr_20_52 : cres 20 52 = some (65, 2, 1, 15) := by decide +kernel
theorem cr_20_56 : cres 20 56 = some (66, 2, 1, 15) := by decide +kernel
theorem cr_20_60 : cres 20 60 = some (67, 3, 1, 15) := by decide +kernel
theorem cr_20_64 : cres 20 64 = some (68, 3, 1, 15) := by decide +kernel
theorem cr_20_68 : cres 20 68 = some (69, 2, 1, 15) := by decide +kernel
theorem cr_20_72 : cres 20 72 = some (70, 2, 1, 15) := by decide +kernel
theorem cr_20_76 : cres 20 76 = some (71, 2, 1, 15) := by decide +kernel
theorem cr_6_173 : cres 6 173 = some (117, 3, 1, 15) := by decide +kernel
theorem cr_20_80 : cres 20 80 = some (72, 2, 1, 15) := by decide +kernel
theorem cr_20_84 : cres 20 84 = some (73, 2, 1, 15) := by decide +kernel
theorem cr_20_88 : cres 20 88 = some (74, 3, 1, 15) := by decide +kernel
theorem cr_6_180 : cres 6 180 = some (15, 3, 1, 11) := by decide +kernel
theorem cr_2_34 : cres 2 34 = some (20, 2, 0, 11) := by decide +kernel
theorem cr_2_53 : cres 2 53 = some (1, 2, 0, 10) := by decide +kernel
theorem cr_2_38 : cres 2 38 = some (22, 3, 1, 11) := by decide +kernel
theorem cr_2_75 : cres 2 75 = some (21, 3, 1, 11) := by decide +kernel
theorem cr_2_65 : cres 2 65 = some (52, 3, 0, 14) := by decide +kernel
theorem cr_2_68 : cres 2 68 = some (54, 2, 1, 14) := by decide +kernel
theorem cr_6_184 : cres 6 184 = some (19, 2, 1, 11) := by decide +kernel
theorem cr_20_92 : cres 20 92 = some (75, 2, 1, 15) := by decide +kernel
theorem cr_6_187 : cres 6 187 = some (16, 3, 1, 11) := by decide +kernel
theorem cr_2_42 : cres 2 42 = some (23, 3, 1, 11) := by decide +kernel
theorem cr_20_96 : cres 20 96 = some (76, 2, 1, 15) := by decide +kernel
theorem cr_6_191 : cres 6 191 = some (17, 3, 1, 11) := by decide +kernel
theorem cr_2_46 : cres 2 46 = some (24, 3, 1, 11) := by decide +kernel
theorem cr_2_78 : cres 2 78 = some (907, 2, 1, 7) := by decide +kernel
theorem cr_20_100 : cres 20 100 = some (77, 1, 1, 15) := by decide +kernel
theorem cr_6_194 : cres 6 194 = some (18, 2, 1, 11) := by decide +kernel
theorem cr_2_49 : cres 2 49 = some (25, 4, 1, 11) := by decide +kernel
theorem cr_2_83 : cres 2 83 = some (26, 2, 1, 1) := by decide +kernel
theorem cr_2_90 : cres 2 90 = some (230, 1, 1, 1) := by decide +kernel
theorem cr_20_105 : cres 20 105 = some (78, 2, 1, 15) := by decide +kernel
theorem cr_6_198 : cres 6 198 = some (119, 5, 1, 15) := by decide +kernel
theorem cr_6_202 : cres 6 202 = some (118, 3, 1, 15) := by decide +kernel
theorem cr_20_109 : cres 20 109 = some (79, 1, 1, 15) := by decide +kernel
theorem cr_20_113 : cres 20 113 = some (80, 3, 1, 15) := by decide +kernel
theorem cr_6_205 : cres 6 205 = some (120, 3, 1, 15) := by decide +kernel
theorem cr_6_301 : cres 6 301 = some (908, 1, 1, 8) := by decide +kernel
theorem cr_20_117 : cres 20 117 = some (81, 2, 1, 15) := by decide +kernel
theorem cr_20_121 : cres 20 121 = some (82, 3, 1, 15) := by decide +kernel
theorem cr_6_208 : cres 6 208 = some (121, 3, 1, 15) := by decide +kernel
theorem cr_6_215 : cres 6 215 = some (46, 2, 1, 13) := by decide +kernel
theorem cr_6_211 : cres 6 211 = some (50, 3, 1, 13) := by decide +kernel
theorem cr_20_125 : cres 20 125 = some (83, 3, 1, 15) := by decide +kernel
theorem cr_20_129 : cres 20 129 = some (84, 2, 1, 15) := by decide +kernel
theorem cr_20_133 : cres 20 133 = some (85, 2, 1, 15) := by decide +kernel
theorem cr_6_221 : cres 6 221 = some (8, 1, 1, 10) := by decide +kernel
theorem cr_20_137 : cres 20 137 = some (86, 4, 1, 15) := by decide +kernel
theorem cr_6_224 : cres 6 224 = some (122, 2, 1, 1) := by decide +kernel
theorem cr_6_227 : cres 6 227 = some (123, 2, 1, 1) := by decide +kernel
theorem cr_20_142 : cres 20 142 = some (87, 2, 1, 15) := by decide +kernel
theorem cr_20_146 : cres 20 146 = some (88, 3, 1, 15) := by decide +kernel
theorem cr_6_237 : cres 6 237 = some (28, 2, 0, 12) := by decide +kernel
theorem cr_20_150 : cres 20 150 = some (89, 1, 1, 15) := by decide +kernel
theorem cr_20_154 : cres 20 154 = some (90, 1, 1, 15) := by decide +kernel
theorem cr_6_240 : cres 6 240 = some (1, 2, 0, 10) := by decide +kernel
theorem cr_6_243 : cres 6 243 = some (29, 2, 1, 12) := by decide +kernel
theorem cr_3_43 : cres 3 43 = some (38, 1, 0, 12) := by decide +kernel
theorem cr_3_96 : cres 3 96 = some (39, 1, 1, 1) := by decide +kernel
theorem cr_3_100 : cres 3 100 = some (40, 3, 0, 12) := by decide +kernel
theorem cr_3_104 : cres 3 104 = some (41, 2, 0, 12) := by decide +kernel
theorem cr_3_107 : cres 3 107 = some (907, 2, 1, 7) := by decide +kernel
theorem cr_3_46 : cres 3 46 = some (42, 1, 0, 12) := by decide +kernel
theorem cr_3_113 : cres 3 113 = some (43, 3, 1, 12) := by decide +kernel
theorem cr_3_118 : cres 3 118 = some (44, 4, 1, 12) := by decide +kernel
theorem cr_3_145 : cres 3 145 = some (231, 1, 1, 17) := by decide +kernel
theorem cr_10_335 : cres 10 335 = some (233, 1, 1, 17) := by decide +kernel
theorem cr_3_150 : cres 3 150 = some (232, 2, 1, 17) := by decide +kernel
theorem cr_10_492 : cres 10 492 = some (234, 1, 1, 17) := by decide +kernel
theorem cr_10_495 : cres 10 495 = some (236, 2, 1, 1) := by decide +kernel
theorem cr_11_9 : cres 11 9 = some (235, 2, 0, 1) := by decide +kernel
theorem cr_10_1059 : cres 10 1059 = some (241, 3, 1, 1) := by decide +kernel
theorem cr_10_498 : cres 10 498 = some (239, 2, 1, 1) := by decide +kernel
theorem cr_12_67 : cres 12 67 = some (240, 2, 0, 1) := by decide +kernel
theorem cr_12_48 : cres 12 48 = some (238, 1, 1, 1) := by decide +kernel
theorem cr_12_414 : cres 12 414 = some (235, 2, 0, 1) := by decide +kernel
theorem cr_12_71 : cres 12 71 = some (237, 2, 1, 1) := by decide +kernel
theorem cr_3_49 : cres 3 49 = some (31, 2, 0, 12) := by decide +kernel
theorem cr_3_53 : cres 3 53 = some (32, 2, 1, 12) := by decide +kernel
theorem cr_3_61 : cres 3 61 = some (34, 2, 1, 12) := by decide +kernel
theorem cr_3_86 : cres 3 86 = some (37, 2, 1, 12) := by decide +kernel
theorem cr_3_64 : cres 3 64 = some (35, 2, 1, 12) := by decide +kernel
theorem cr_3_72 : cres 3 72 = some (33, 2, 1, 12) := by decide +kernel
theorem cr_3_79 : cres 3 79 = some (4, 1, 1, 10) := by decide +kernel
theorem cr_3_83 : cres 3 83 = some (36, 2, 1, 12) := by decide +kernel
theorem cr_3_89 : cres 3 89 = some (5, 4, 1, 10) := by decide +kernel
theorem cr_3_57 : cres 3 57 = some (30, 1, 1, 12) := by decide +kernel
theorem cr_20_158 : cres 20 158 = some (91, 3, 1, 15) := by decide +kernel
theorem cr_6_246 : cres 6 246 = some (107, 1, 1, 1) := by decide +kernel
theorem cr_20_162 : cres 20 162 = some (92, 3, 1, 15) := by decide +kernel
theorem cr_6_253 : cres 6 253 = some (13, 2, 1, 1) := by decide +kernel
theorem cr_20_166 : cres 20 166 = some (93, 4, 1, 15) := by decide +kernel
theorem cr_6_259 : cres 6 259 = some (108, 1, 1, 1) := by decide +kernel
theorem cr_6_263 : cres 6 263 = some (47, 4, 0, 13) := by decide +kernel
theorem cr_20_170 : cres 20 170 = some (94, 4, 1, 15) := by decide +kernel
theorem cr_6_267 : cres 6 267 = some (48, 4, 0, 13) := by decide +kernel
theorem cr_20_174 : cres 20 174 = some (95, 6, 1, 15) := by decide +kernel
theorem cr_6_272 : cres 6 272 = some (49, 4, 1, 13) := by decide +kernel
theorem cr_20_179 : cres 20 179 = some (96, 2, 1, 15) := by decide +kernel
theorem cr_20_183 : cres 20 183 = some (97, 2, 1, 15) := by decide +kernel
theorem cr_20_187 : cres 20 187 = some (98, 1, 1, 15) := by decide +kernel
theorem cr_20_191 : cres 20 191 = some (99, 1, 1, 15) := by decide +kernel
theorem cr_20_195 : cres 20 195 = some (100, 1, 1, 15) := by decide +kernel
theorem cr_20_199 : cres 20 199 = some (101, 2, 1, 15) := by decide +kernel
theorem cr_6_290 : cres 6 290 = some (9, 1, 1, 10) := by decide +kernel
theorem cr_20_203 : cres 20 203 = some (102, 2, 1, 15) := by decide +kernel
theorem cr_20_17 : cres 20 17 = some (140, 3, 1, 16) := by decide +kernel
theorem cr_7_95 : cres 7 95 = some (134, 1, 1, 1) := by decide +kernel
theorem cr_7_88 : cres 7 88 = some (126, 3, 1, 1) := by decide +kernel
theorem cr_7_99 : cres 7 99 = some (135, 1, 1, 1) := by decide +kernel
theorem cr_7_102 : cres 7 102 = some (127, 3, 1, 16) := by decide +kernel
theorem cr_7_75 : cres 7 75 = some (125, 2, 1, 16) := by decide +kernel
theorem cr_20_22 : cres 20 22 = some (141, 2, 1, 16) := by decide +kernel
theorem cr_20_26 : cres 20 26 = some (143, 3, 1, 16) := by decide +kernel
theorem cr_7_105 : cres 7 105 = some (137, 1, 1, 1) := by decide +kernel
theorem cr_7_109 : cres 7 109 = some (142, 4, 1, 16) := by decide +kernel
theorem cr_7_92 : cres 7 92 = some (138, 2, 1, 1) := by decide +kernel
theorem cr_20_30 : cres 20 30 = some (147, 3, 1, 16) := by decide +kernel
theorem cr_7_126 : cres 7 126 = some (136, 2, 1, 16) := by decide +kernel
theorem cr_7_119 : cres 7 119 = some (144, 2, 1, 16) := by decide +kernel
theorem cr_7_113 : cres 7 113 = some (139, 3, 1, 16) := by decide +kernel
theorem cr_7_85 : cres 7 85 = some (906, 2, 1, 6) := by decide +kernel
theorem cr_7_129 : cres 7 129 = some (146, 2, 1, 16) := by decide +kernel
theorem cr_7_122 : cres 7 122 = some (145, 3, 1, 16) := by decide +kernel
theorem cr_7_116 : cres 7 116 = some (908, 1, 1, 8) := by decide +kernel
theorem cr_20_35 : cres 20 35 = some (149, 4, 1, 16) := by decide +kernel
theorem cr_7_132 : cres 7 132 = some (148, 2, 1, 1) := by decide +kernel
theorem cr_20_39 : cres 20 39 = some (150, 2, 1, 16) := by decide +kernel
theorem cr_20_43 : cres 20 43 = some (154, 2, 1, 16) := by decide +kernel
theorem cr_7_146 : cres 7 146 = some (153, 2, 1, 16) := by decide +kernel
theorem cr_7_135 : cres 7 135 = some (151, 3, 1, 1) := by decide +kernel
theorem cr_7_79 : cres 7 79 = some (907, 2, 1, 7) := by decide +kernel
theorem cr_7_138 : cres 7 138 = some (133, 1, 1, 1) := by decide +kernel
theorem cr_7_141 : cres 7 141 = some (152, 3, 1, 1) := by decide +kernel
theorem cr_20_47 : cres 20 47 = some (156, 2, 1, 16) := by decide +kernel
theorem cr_7_149 : cres 7 149 = some (155, 2, 1, 16) := by decide +kernel
theorem cr_7_152 : cres 7 152 = some (132, 1, 1, 1) := by decide +kernel
theorem cr_7_155 : cres 7 155 = some (131, 2, 1, 1) := by decide +kernel
theorem cr_20_51 : cres 20 51 = some (161, 2, 1, 16) := by decide +kernel
theorem cr_7_164 : cres 7 164 = some (158, 1, 1, 16) := by decide +kernel
theorem cr_7_168 : cres 7 168 = some (160, 1, 1, 16) := by decide +kernel
theorem cr_7_161 : cres 7 161 = some (159, 2, 1, 16) := by decide +kernel
theorem cr_7_70 : cres 7 70 = some (128, 2, 0, 1) := by decide +kernel
theorem cr_7_158 : cres 7 158 = some (129, 2, 1, 16) := by decide +kernel
theorem cr_7_171 : cres 7 171 = some (157, 2, 1, 16) := by decide +kernel
theorem cr_20_55 : cres 20 55 = some (162, 2, 1, 16) := by decide +kernel
theorem cr_20_59 : cres 20 59 = some (164, 2, 1, 16) := by decide +kernel
theorem cr_7_174 : cres 7 174 = some (163, 3, 1, 16) := by decide +kernel
theorem cr_20_63 : cres 20 63 = some (165, 3, 1, 16) := by decide +kernel
theorem cr_20_67 : cres 20 67 = some (167, 3, 1, 16) := by decide +kernel
theorem cr_7_177 : cres 7 177 = some (166, 3, 1, 16) := by decide +kernel
theorem cr_20_71 : cres 20 71 = some (168, 2, 1, 16) := by decide +kernel
theorem cr_20_75 : cres 20 75 = some (171, 2, 1, 16) := by decide +kernel
theorem cr_7_180 : cres 7 180 = some (170, 4, 1, 16) := by decide +kernel
theorem cr_7_183 : cres 7 183 = some (130, 2, 1, 16) := by decide +kernel
theorem cr_20_79 : cres 20 79 = some (172, 2, 1, 16) := by decide +kernel
theorem cr_7_186 : cres 7 186 = some (169, 4, 1, 16) := by decide +kernel
theorem cr_20_83 : cres 20 83 = some (173, 2, 1, 16) := by decide +kernel
theorem cr_20_87 : cres 20 87 = some (174, 2, 1, 16) := by decide +kernel
theorem cr_20_91 : cres 20 91 = some (179, 3, 1, 16) := by decide +kernel
theorem cr_7_207 : cres 7 207 = some (178, 3, 0, 16) := by decide +kernel
theorem cr_7_200 : cres 7 200 = some (177, 5, 0, 16) := by decide +kernel
theorem cr_7_196 : cres 7 196 = some (175, 2, 0, 16) := by decide +kernel
theorem cr_7_204 : cres 7 204 = some (176, 2, 0, 16) := by decide +kernel
theorem cr_20_95 : cres 20 95 = some (180, 2, 1, 16) := by decide +kernel
theorem cr_20_99 : cres 20 99 = some (181, 2, 1, 16) := by decide +kernel
theorem cr_20_104 : cres 20 104 = some (182, 1, 1, 16) := by decide +kernel
theorem cr_20_108 : cres 20 108 = some (184, 2, 1, 16) := by decide +kernel
theorem cr_7_211 : cres 7 211 = some (183, 2, 0, 16) := by decide +kernel
theorem cr_20_112 : cres 20 112 = some (185, 1, 1, 16) := by decide +kernel
theorem cr_20_116 : cres 20 116 = some (187, 3, 1, 16) := by decide +kernel
theorem cr_7_214 : cres 7 214 = some (186, 3, 1, 16) := by decide +kernel
theorem cr_20_120 : cres 20 120 = some (188, 2, 1, 16) := by decide +kernel
theorem cr_20_124 : cres 20 124 = some (193, 3, 1, 16) := by decide +kernel
theorem cr_7_233 : cres 7 233 = some (190, 3, 1, 16) := by decide +kernel
theorem cr_7_224 : cres 7 224 = some (189, 2, 1, 16) := by decide +kernel
theorem cr_7_220 : cres 7 220 = some (216, 1, 1, 1) := by decide +kernel
theorem cr_7_236 : cres 7 236 = some (192, 3, 1, 16) := by decide +kernel
theorem cr_7_230 : cres 7 230 = some (191, 3, 1, 16) := by decide +kernel
theorem cr_20_128 : cres 20 128 = some (194, 3, 1, 16) := by decide +kernel
theorem cr_20_132 : cres 20 132 = some (195, 2, 1, 16) := by decide +kernel
theorem cr_20_136 : cres 20 136 = some (197, 2, 1, 16) := by decide +kernel
theorem cr_7_240 : cres 7 240 = some (196, 1, 1, 16) := by decide +kernel
theorem cr_20_141 : cres 20 141 = some (198, 4, 1, 16) := by decide +kernel
theorem cr_20_145 : cres 20 145 = some (199, 2, 1, 16) := by decide +kernel
theorem cr_20_149 : cres 20 149 = some (200, 3, 1, 16) := by decide +kernel
theorem cr_20_153 : cres 20 153 = some (201, 1, 1, 16) := by decide +kernel
theorem cr_20_157 : cres 20 157 = some (212, 1, 1, 16) := by decide +kernel
theorem cr_7_272 : cres 7 272 = some (203, 1, 0, 16) := by decide +kernel
theorem cr_7_252 : cres 7 252 = some (202, 2, 1, 16) := by decide +kernel
theorem cr_7_315 : cres 7 315 = some (210, 1, 0, 16) := by decide +kernel
theorem cr_7_289 : cres 7 289 = some (208, 1, 1, 16) := by decide +kernel
theorem cr_7_282 : cres 7 282 = some (204, 2, 1, 16) := by decide +kernel
theorem cr_7_261 : cres 7 261 = some (231, 1, 1, 17) := by decide +kernel
theorem cr_7_264 : cres 7 264 = some (232, 2, 1, 17) := by decide +kernel
theorem cr_7_275 : cres 7 275 = some (205, 2, 0, 16) := by decide +kernel
theorem cr_7_297 : cres 7 297 = some (209, 3, 1, 16) := by decide +kernel
theorem cr_7_286 : cres 7 286 = some (206, 3, 1, 16) := by decide +kernel
theorem cr_7_303 : cres 7 303 = some (207, 4, 0, 16) := by decide +kernel
theorem cr_7_318 : cres 7 318 = some (211, 2, 1, 16) := by decide +kernel
theorem cr_20_161 : cres 20 161 = some (214, 3, 1, 16) := by decide +kernel
theorem cr_7_321 : cres 7 321 = some (213, 1, 1, 1) := by decide +kernel
theorem cr_20_165 : cres 20 165 = some (215, 3, 1, 16) := by decide +kernel
theorem cr_7_324 : cres 7 324 = some (222, 2, 1, 1) := by decide +kernel
theorem cr_7_332 : cres 7 332 = some (221, 1, 1, 1) := by decide +kernel
theorem cr_20_169 : cres 20 169 = some (218, 4, 1, 16) := by decide +kernel
theorem cr_20_173 : cres 20 173 = some (219, 4, 1, 16) := by decide +kernel
theorem cr_7_329 : cres 7 329 = some (217, 2, 1, 1) := by decide +kernel
theorem cr_20_178 : cres 20 178 = some (220, 6, 1, 16) := by decide +kernel
theorem cr_20_182 : cres 20 182 = some (223, 2, 1, 16) := by decide +kernel
theorem cr_20_186 : cres 20 186 = some (224, 2, 1, 16) := by decide +kernel
theorem cr_20_190 : cres 20 190 = some (225, 1, 1, 16) := by decide +kernel
theorem cr_20_194 : cres 20 194 = some (226, 1, 1, 16) := by decide +kernel
theorem cr_20_198 : cres 20 198 = some (227, 1, 1, 16) := by decide +kernel
theorem cr_20_202 : cres 20 202 = some (228, 2, 1, 16) := by decide +kernel
theorem cr_20_206 : cres 20 206 = some (229, 2, 1, 16) := by decide +kernel
theorem cr_5_59 : cres 5 59 = some (110, 1, 1, 2) := by decide +kernel
theorem cr_2_72 : cres 2 72 = some (109, 2, 1, 2) := by decide +kernel
theorem cr_4_23 : cres 4 23 = some (108, 1, 1, 2) := by decide +kernel
theorem cr_3_75 : cres 3 75 = some (106, 1, 1, 2) := by decide +kernel
theorem cr_1_22 : cres 1 22 = some (106, 1, 1, 2) := by decide +kernel
theorem cr_0_43 : cres 0 43 = some (999, 5, 0, 5) := by decide +kernel
theorem cr_2_59 : cres 2 59 = some (999, 5, 0, 5) := by decide +kernel
theorem cr_6_280 : cres 6 280 = some (999, 5, 0, 5) := by decide +kernel
theorem fr_0_9 : fres 0 9 = some (0, 0) := by decide +kernel
theorem fr_6_73 : fres 6 73 = some (0, 0) := by decide +kernel
theorem fr_2_56 : fres 2 56 = some (0, 0) := by decide +kernel
theorem fr_3_93 : fres 3 93 = some (0, 0) := by decide +kernel
theorem fr_0_15 : fres 0 15 = some (0, 1) := by decide +kernel
theorem fr_5_34 : fres 5 34 = some (0, 1) := by decide +kernel
theorem fr_6_91 : fres 6 91 = some (0, 1) := by decide +kernel
theorem fr_0_18 : fres 0 18 = some (0, 2) := by decide +kernel
theorem fr_5_37 : fres 5 37 = some (0, 2) := by decide +kernel
theorem fr_6_94 : fres 6 94 = some (0, 2) := by decide +kernel
theorem fr_0_21 : fres 0 21 = some (0, 3) := by decide +kernel
theorem fr_5_40 : fres 5 40 = some (0, 3) := by decide +kernel
theorem fr_6_97 : fres 6 97 = some (0, 3) := by decide +kernel
theorem fr_0_24 : fres 0 24 = some (0, 4) := by decide +kernel
theorem fr_6_100 : fres 6 100 = some (0, 4) := by decide +kernel
theorem fr_0_27 : fres 0 27 = some (0, 5) := by decide +kernel
theorem fr_6_249 : fres 6 249 = some (0, 5) := by decide +kernel
theorem fr_0_30 : fres 0 30 = some (0, 6) := by decide +kernel
theorem fr_6_145 : fres 6 145 = some (0, 6) := by decide +kernel
theorem fr_2_86 : fres 2 86 = some (0, 6) := by decide +kernel
theorem fr_0_34 : fres 0 34 = some (0, 7) := by decide +kernel
theorem fr_5_43 : fres 5 43 = some (0, 7) := by decide +kernel
theorem fr_3_67 : fres 3 67 = some (0, 7) := by decide +kernel
theorem fr_6_113 : fres 6 113 = some (0, 7) := by decide +kernel
theorem fr_0_37 : fres 0 37 = some (0, 8) := by decide +kernel
theorem fr_6_117 : fres 6 117 = some (0, 8) := by decide +kernel
theorem fr_0_40 : fres 0 40 = some (0, 9) := by decide +kernel
theorem fr_6_231 : fres 6 231 = some (0, 9) := by decide +kernel
theorem fr_5_9 : fres 5 9 = some (4, 0) := by decide +kernel
theorem fr_6_154 : fres 6 154 = some (4, 0) := by decide +kernel
theorem fr_5_15 : fres 5 15 = some (4, 1) := by decide +kernel
theorem fr_6_177 : fres 6 177 = some (4, 1) := by decide +kernel
theorem fr_5_19 : fres 5 19 = some (4, 2) := by decide +kernel
theorem fr_6_151 : fres 6 151 = some (4, 2) := by decide +kernel
theorem fr_5_22 : fres 5 22 = some (4, 3) := by decide +kernel
theorem fr_6_169 : fres 6 169 = some (4, 3) := by decide +kernel
theorem fr_5_25 : fres 5 25 = some (4, 4) := by decide +kernel
theorem fr_2_12 : fres 2 12 = some (1, 0) := by decide +kernel
theorem fr_2_21 : fres 2 21 = some (1, 1) := by decide +kernel
theorem fr_2_27 : fres 2 27 = some (1, 2) := by decide +kernel
theorem fr_2_30 : fres 2 30 = some (1, 3) := by decide +kernel
theorem fr_3_9 : fres 3 9 = some (2, 0) := by decide +kernel
theorem fr_3_15 : fres 3 15 = some (2, 1) := by decide +kernel
theorem fr_6_234 : fres 6 234 = some (2, 1) := by decide +kernel
theorem fr_3_19 : fres 3 19 = some (2, 2) := by decide +kernel
theorem fr_3_22 : fres 3 22 = some (2, 3) := by decide +kernel
theorem fr_3_25 : fres 3 25 = some (2, 4) := by decide +kernel
theorem fr_3_28 : fres 3 28 = some (2, 5) := by decide +kernel
theorem fr_3_31 : fres 3 31 = some (2, 6) := by decide +kernel
theorem fr_3_34 : fres 3 34 = some (2, 7) := by decide +kernel
theorem fr_3_37 : fres 3 37 = some (2, 8) := by decide +kernel
theorem fr_3_40 : fres 3 40 = some (2, 9) := by decide +kernel
theorem fr_4_11 : fres 4 11 = some (3, 0) := by decide +kernel
theorem fr_6_276 : fres 6 276 = some (3, 0) := by decide +kernel
theorem fr_4_16 : fres 4 16 = some (3, 1) := by decide +kernel
theorem fr_6_269 : fres 6 269 = some (3, 1) := by decide +kernel
theorem fr_4_20 : fres 4 20 = some (3, 2) := by decide +kernel
theorem fr_6_218 : fres 6 218 = some (3, 2) := by decide +kernel
theorem fr_6_12 : fres 6 12 = some (5, 0) := by decide +kernel
theorem fr_6_16 : fres 6 16 = some (5, 1) := by decide +kernel
theorem fr_6_19 : fres 6 19 = some (5, 2) := by decide +kernel
theorem fr_6_25 : fres 6 25 = some (5, 3) := by decide +kernel
theorem fr_6_29 : fres 6 29 = some (5, 4) := by decide +kernel
theorem fr_6_36 : fres 6 36 = some (5, 5) := by decide +kernel
theorem fr_6_43 : fres 6 43 = some (5, 6) := by decide +kernel
theorem fr_6_50 : fres 6 50 = some (5, 7) := by decide +kernel
theorem fr_6_54 : fres 6 54 = some (5, 8) := by decide +kernel
theorem fr_6_57 : fres 6 57 = some (5, 9) := by decide +kernel
theorem fr_7_9 : fres 7 9 = some (6, 0) := by decide +kernel
theorem fr_7_13 : fres 7 13 = some (6, 1) := by decide +kernel
theorem fr_7_16 : fres 7 16 = some (6, 2) := by decide +kernel
theorem fr_7_335 : fres 7 335 = some (6, 3) := by decide +kernel
theorem fr_7_19 : fres 7 19 = some (6, 4) := by decide +kernel
theorem fr_7_22 : fres 7 22 = some (6, 5) := by decide +kernel
theorem fr_7_25 : fres 7 25 = some (6, 6) := by decide +kernel
theorem fr_7_28 : fres 7 28 = some (6, 7) := by decide +kernel
theorem fr_7_189 : fres 7 189 = some (6, 8) := by decide +kernel
theorem fr_7_193 : fres 7 193 = some (6, 9) := by decide +kernel
theorem fr_7_227 : fres 7 227 = some (6, 10) := by decide +kernel
theorem fr_7_31 : fres 7 31 = some (6, 11) := by decide +kernel
theorem fr_7_243 : fres 7 243 = some (6, 12) := by decide +kernel
theorem fr_7_249 : fres 7 249 = some (6, 13) := by decide +kernel
theorem fr_7_246 : fres 7 246 = some (6, 14) := by decide +kernel
theorem fr_7_258 : fres 7 258 = some (6, 15) := by decide +kernel
theorem fr_7_255 : fres 7 255 = some (6, 16) := by decide +kernel
theorem fr_7_268 : fres 7 268 = some (6, 17) := by decide +kernel
theorem fr_7_50 : fres 7 50 = some (6, 18) := by decide +kernel
theorem fr_7_54 : fres 7 54 = some (6, 19) := by decide +kernel
theorem fr_7_279 : fres 7 279 = some (6, 20) := by decide +kernel
theorem fr_7_292 : fres 7 292 = some (6, 21) := by decide +kernel
theorem fr_7_57 : fres 7 57 = some (6, 22) := by decide +kernel
theorem fr_7_60 : fres 7 60 = some (6, 23) := by decide +kernel
theorem fr_7_63 : fres 7 63 = some (6, 24) := by decide +kernel
theorem fr_7_66 : fres 7 66 = some (6, 25) := by decide +kernel
theorem kr_6_68 : kres 6 68 = some (-1000001) := by decide +kernel
theorem skr_6_68 : sres 6 68 = none := by decide +kernel
theorem kr_6_83 : kres 6 83 = some (-1000002) := by decide +kernel
theorem skr_6_83 : sres 6 83 = none := by decide +kernel
theorem kr_6_120 : kres 6 120 = some (99999) := by decide +kernel
theorem skr_6_120 : sres 6 120 = none := by decide +kernel
theorem kr_6_121 : kres 6 121 = some (-1000005) := by decide +kernel
theorem skr_6_121 : sres 6 121 = none := by decide +kernel
theorem kr_16_265 : kres 16 265 = some (1431655765) := by decide +kernel
theorem skr_16_265 : sres 16 265 = none := by decide +kernel
theorem kr_16_266 : kres 16 266 = some (858993459) := by decide +kernel
theorem skr_16_266 : sres 16 266 = none := by decide +kernel
theorem kr_16_267 : kres 16 267 = some (252645135) := by decide +kernel
theorem skr_16_267 : sres 16 267 = none := by decide +kernel
theorem kr_6_172 : kres 6 172 = some (-1000004) := by decide +kernel
theorem skr_6_172 : sres 6 172 = none := by decide +kernel
theorem kr_4_27 : kres 4 27 = some (-1000001) := by decide +kernel
theorem skr_4_27 : sres 4 27 = none := by decide +kernel
theorem kr_4_28 : kres 4 28 = some (-1000006) := by decide +kernel
theorem skr_4_28 : sres 4 28 = none := by decide +kernel
theorem kr_0_71 : kres 0 71 = some (1103515245) := by decide +kernel
theorem skr_0_71 : sres 0 71 = none := by decide +kernel
theorem kr_6_252 : kres 6 252 = some (-1000006) := by decide +kernel
theorem skr_6_252 : sres 6 252 = none := by decide +kernel
theorem kr_6_258 : kres 6 258 = some (-1000003) := by decide +kernel
theorem skr_6_258 : sres 6 258 = none := by decide +kernel
theorem kr_6_262 : kres 6 262 = some (-1000007) := by decide +kernel
theorem skr_6_262 : sres 6 262 = none := by decide +kernel
theorem kr_7_69 : kres 7 69 = some (-1000001) := by decide +kernel
theorem skr_7_69 : sres 7 69 = none := by decide +kernel
theorem kr_7_108 : kres 7 108 = some (-1000002) := by decide +kernel
theorem skr_7_108 : sres 7 108 = none := by decide +kernel
theorem kr_7_144 : kres 7 144 = some (99999) := by decide +kernel
theorem skr_7_144 : sres 7 144 = none := by decide +kernel
theorem kr_7_145 : kres 7 145 = some (-1000005) := by decide +kernel
theorem skr_7_145 : sres 7 145 = none := by decide +kernel
theorem kr_7_74 : kres 7 74 = some (-1000004) := by decide +kernel
theorem skr_7_74 : sres 7 74 = none := by decide +kernel
theorem kr_7_219 : kres 7 219 = some (2147483647) := by decide +kernel
theorem skr_7_219 : sres 7 219 = none := by decide +kernel
theorem kr_7_223 : kres 7 223 = some (-1000006) := by decide +kernel
theorem skr_7_223 : sres 7 223 = none := by decide +kernel
theorem kr_7_239 : kres 7 239 = some (1103515245) := by decide +kernel
theorem skr_7_239 : sres 7 239 = none := by decide +kernel
theorem kr_7_327 : kres 7 327 = some (-1000003) := by decide +kernel
theorem skr_7_327 : sres 7 327 = none := by decide +kernel
theorem kr_7_328 : kres 7 328 = some (-1000007) := by decide +kernel
theorem skr_7_328 : sres 7 328 = none := by decide +kernel
theorem sr_3_116 : sres 3 116 = some 0 := by decide +kernel
theorem sr_3_122 : sres 3 122 = some 1 := by decide +kernel
theorem sr_3_124 : sres 3 124 = some 2 := by decide +kernel
theorem sr_3_126 : sres 3 126 = some 3 := by decide +kernel
theorem sr_3_128 : sres 3 128 = some 4 := by decide +kernel
theorem sr_3_130 : sres 3 130 = some 5 := by decide +kernel
theorem sr_3_132 : sres 3 132 = some 6 := by decide +kernel
theorem sr_3_134 : sres 3 134 = some 7 := by decide +kernel
theorem sr_3_136 : sres 3 136 = some 8 := by decide +kernel
theorem sr_3_138 : sres 3 138 = some 9 := by decide +kernel
theorem sr_3_139 : sres 3 139 = some 10 := by decide +kernel
theorem sr_3_141 : sres 3 141 = some 11 := by decide +kernel
theorem sr_3_143 : sres 3 143 = some 12 := by decide +kernel
theorem sr_7_36 : sres 7 36 = some 0 := by decide +kernel
theorem sr_7_38 : sres 7 38 = some 1 := by decide +kernel
theorem sr_7_40 : sres 7 40 = some 2 := by decide +kernel
theorem sr_7_42 : sres 7 42 = some 3 := by decide +kernel
theorem sr_7_44 : sres 7 44 = some 4 := by decide +kernel
theorem sr_7_46 : sres 7 46 = some 5 := by decide +kernel
theorem sr_7_48 : sres 7 48 = some 6 := by decide +kernel
theorem sr_7_295 : sres 7 295 = some 11 := by decide +kernel
theorem sr_7_301 : sres 7 301 = some 12 := by decide +kernel
theorem sr_7_307 : sres 7 307 = some 7 := by decide +kernel
theorem sr_7_309 : sres 7 309 = some 8 := by decide +kernel
theorem sr_7_311 : sres 7 311 = some 9 := by decide +kernel
theorem sr_7_313 : sres 7 313 = some 10 := by decide +kernel
